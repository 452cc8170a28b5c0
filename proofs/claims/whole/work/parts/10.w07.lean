set_option maxHeartbeats 4000000 in
set_option maxRecDepth 100000 in
theorem c_X10_layAnswers (l : Launch) (dC : Nat → ClassId) (dI : Nat → Nat → Nat) (cI cJ cZ cQ : ClassId) (t sz : Nat) (a_th : Nat) (a_factOf : Nat) (a_yesOf : Nat) (a_noOf : Nat) (a_question : Nat) (a_stack : Nat) (q_text : Value) (q_page : Value) (q_book : Value) (q_bookSeed : Value) (q_kept : Value) (q_isKept : Value) (q_toldSimple : Value) (q_toldDay : Value) (q_toldYes : Value) (q_one : Value) (q_two : Value) (q_three : Value) (v_thrown : Int32) (v_textSize : Int32) (v_place : Int32) (v_questionSize : Int32) (v_facts : Int32) (v_isSo : Int32) (v_common : Int32) (v_readFacts : Int32) (v_readSo : Int32) (v_readCommon : Int32) (v_readDay : Int32) (v_seed : Int64) (v_acts : Int32) (v_told : Int32) (v_factOf : (Nat → Int32)) (v_yesOf : (Nat → Int32)) (v_noOf : (Nat → Int32)) (v_question : (Nat → Int32)) (v_stack : (Nat → Int32)) (o : (Nat → Int32) × (Nat → Int32) × (Nat → Int32) × (Nat → Int32)) (hm : m_X10_layAnswers v_questionSize v_facts v_factOf v_yesOf v_noOf v_question v_stack = some o) : Met l yX10_layAnswers wsX10_layAnswers { frames := 4, cells := 0, slots := 0, locals := 104 } (va_Pc [.ref a_th] (cP (dC, dI) (kT cI cJ cZ cQ) t sz [oX10 a_th (.int v_thrown) q_text (.int v_textSize) (.int v_place) (.ref a_question) (.int v_questionSize) (.int v_facts) (.int v_isSo) (.int v_common) (.int v_readFacts) (.int v_readSo) (.int v_readCommon) (.int v_readDay) q_page (.long v_seed) q_book q_bookSeed (.int v_acts) q_kept q_isKept (.int v_told) q_toldSimple q_toldDay q_toldYes (.ref a_yesOf) (.ref a_noOf) (.ref a_factOf) (.ref a_stack) q_one q_two q_three, aI cI a_factOf 5 v_factOf, aI cI a_yesOf 931 v_yesOf, aI cI a_noOf 931 v_noOf, aI cI a_question 16 v_question, aI cZ a_stack 17 v_stack])) (cQv (dC, dI) (va_A [oX10 a_th (.int v_thrown) q_text (.int v_textSize) (.int v_place) (.ref a_question) (.int v_questionSize) (.int v_facts) (.int v_isSo) (.int v_common) (.int v_readFacts) (.int v_readSo) (.int v_readCommon) (.int v_readDay) q_page (.long v_seed) q_book q_bookSeed (.int v_acts) q_kept q_isKept (.int v_told) q_toldSimple q_toldDay q_toldYes (.ref a_yesOf) (.ref a_noOf) (.ref a_factOf) (.ref a_stack) q_one q_two q_three, aI cI a_factOf 5 v_factOf, aI cI a_yesOf 931 v_yesOf, aI cI a_noOf 931 v_noOf, aI cI a_question 16 v_question, aI cZ a_stack 17 v_stack] sz) [oX10 a_th (.int v_thrown) q_text (.int v_textSize) (.int v_place) (.ref a_question) (.int v_questionSize) (.int v_facts) (.int v_isSo) (.int v_common) (.int v_readFacts) (.int v_readSo) (.int v_readCommon) (.int v_readDay) q_page (.long v_seed) q_book q_bookSeed (.int v_acts) q_kept q_isKept (.int v_told) q_toldSimple q_toldDay q_toldYes (.ref a_yesOf) (.ref a_noOf) (.ref a_factOf) (.ref a_stack) q_one q_two q_three, aI cI a_factOf 5 (o.1), aI cI a_yesOf 931 (o.2.1), aI cI a_noOf 931 (o.2.2.1), aI cI a_question 16 v_question, aI cZ a_stack 17 (o.2.2.2)]) 0 0 (va_A [oX10 a_th (.int v_thrown) q_text (.int v_textSize) (.int v_place) (.ref a_question) (.int v_questionSize) (.int v_facts) (.int v_isSo) (.int v_common) (.int v_readFacts) (.int v_readSo) (.int v_readCommon) (.int v_readDay) q_page (.long v_seed) q_book q_bookSeed (.int v_acts) q_kept q_isKept (.int v_told) q_toldSimple q_toldDay q_toldYes (.ref a_yesOf) (.ref a_noOf) (.ref a_factOf) (.ref a_stack) q_one q_two q_three, aI cI a_factOf 5 v_factOf, aI cI a_yesOf 931 v_yesOf, aI cI a_noOf 931 v_noOf, aI cI a_question 16 v_question, aI cZ a_stack 17 v_stack] sz) := by
  refine Met.ofW (cc := cX10_layAnswers) (maxL := 4) (ret := none) (by decide) rfl ?_
  intro p e s m args below meth c s₁ B hml hv
  obtain ⟨rfl, hsz, hP, hK, hD0, hG⟩ := hv
  have hx := B.exec
  have hb := B.bytes
  have hr := B.returns
  have hts := atoms_spec (ws := wsX10_layAnswers) B.pre
  have hown : s.vm.findClass RX10 = some m.cls := findClass_of_methodNamed B.named
  have hlocks := B.notSynchronized
  subst hsz
  have hD := hD0.self (sz := s.heap.size)
  generalize hAe : va_A [oX10 a_th (.int v_thrown) q_text (.int v_textSize) (.int v_place) (.ref a_question) (.int v_questionSize) (.int v_facts) (.int v_isSo) (.int v_common) (.int v_readFacts) (.int v_readSo) (.int v_readCommon) (.int v_readDay) q_page (.long v_seed) q_book q_bookSeed (.int v_acts) q_kept q_isKept (.int v_told) q_toldSimple q_toldDay q_toldYes (.ref a_yesOf) (.ref a_noOf) (.ref a_factOf) (.ref a_stack) q_one q_two q_three, aI cI a_factOf 5 v_factOf, aI cI a_yesOf 931 v_yesOf, aI cI a_noOf 931 v_noOf, aI cI a_question 16 v_question, aI cZ a_stack 17 v_stack] s.heap.size = A at hD hG ⊢
  have hA : ∀ q : Nat, s.heap.size ≤ q → A q := fun q h => by rw [← hAe]; exact Or.inr h
  have hS : va_S A s.heap s.heap [] := va_S.rf
  have hl := lv_entry ([.ref a_th]) (n := 4) (Nat.le_of_ble_eq_true rfl)
  rw [lg_entry_eq]
  generalize (lg_sl ([.ref a_th]) ++ List.replicate (4 - (lg_sl ([.ref a_th])).length) Slot.unset).toArray = ls at hl ⊢
  have hl : lv_has ls 4 [(0, .ref a_th)] := hl
  have iX10 : ∀ w ∈ wsX100, w ∈ wsX10_layAnswers := fun _ h => List.mem_cons_of_mem _ (List.mem_append_right _ h)
  have f48 := hts (.fieldLink RX10 48 "TrueOnceWeekModel" "factOf" "[I") (by decide +kernel)
  have f42 := hts (.fieldLink RX10 42 "TrueOnceWeekModel" "yesOf" "[I") (by decide +kernel)
  have f45 := hts (.fieldLink RX10 45 "TrueOnceWeekModel" "noOf" "[I") (by decide +kernel)
  have f102 := hts (.fieldLink RX10 102 "TrueOnceWeekModel" "facts" "I") (by decide +kernel)
  refine kb_gen (fun Q hQ => ?_)
  unfold m_X10_layAnswers at hm
  refine lv_iconst (v := (0 : Int32)) hx hb dX10_layAnswers_0 (by decide) ?_
  refine lv_istore_n (lv' := [(1, .int (0 : Int32)), (0, .ref a_th)]) hx hb dX10_layAnswers_1 rfl hl (by decide) rfl (fun ls hl => ?_)
  have lp2 : ∀ (n2 : Nat) (x1 : Int32) (w2 : (Nat → Int32)) (k2 : (Nat → Int32) → Option ((Nat → Int32) × (Nat → Int32) × (Nat → Int32) × (Nat → Int32))) (H : Heap) (locs : List Loc) (ls : Array Slot), L_X10_layAnswers_2 n2 x1 w2 k2 = some o → (∀ (w3 : (Nat → Int32)) (H : Heap) (locs : List Loc) (ls : Array Slot), k2 w3 = some o → va_P (dC, dI) vwCl [oX10 a_th (.int v_thrown) q_text (.int v_textSize) (.int v_place) (.ref a_question) (.int v_questionSize) (.int v_facts) (.int v_isSo) (.int v_common) (.int v_readFacts) (.int v_readSo) (.int v_readCommon) (.int v_readDay) q_page (.long v_seed) q_book q_bookSeed (.int v_acts) q_kept q_isKept (.int v_told) q_toldSimple q_toldDay q_toldYes (.ref a_yesOf) (.ref a_noOf) (.ref a_factOf) (.ref a_stack) q_one q_two q_three, aI cI a_factOf 5 w3, aI cI a_yesOf 931 v_yesOf, aI cI a_noOf 931 v_noOf, aI cI a_question 16 v_question, aI cZ a_stack 17 v_stack] H → va_S A s.heap H locs → lv_has ls 4 [(0, .ref a_th)] → W p l e (headSpec wsX10_layAnswers { frames := 4, cells := 0, slots := 0, locals := 104 }).room s m [.ref a_th].toArray below meth c H locs 0 0 Q (F0 m 58 ls [])) → va_P (dC, dI) vwCl [oX10 a_th (.int v_thrown) q_text (.int v_textSize) (.int v_place) (.ref a_question) (.int v_questionSize) (.int v_facts) (.int v_isSo) (.int v_common) (.int v_readFacts) (.int v_readSo) (.int v_readCommon) (.int v_readDay) q_page (.long v_seed) q_book q_bookSeed (.int v_acts) q_kept q_isKept (.int v_told) q_toldSimple q_toldDay q_toldYes (.ref a_yesOf) (.ref a_noOf) (.ref a_factOf) (.ref a_stack) q_one q_two q_three, aI cI a_factOf 5 w2, aI cI a_yesOf 931 v_yesOf, aI cI a_noOf 931 v_noOf, aI cI a_question 16 v_question, aI cZ a_stack 17 v_stack] H → va_S A s.heap H locs → lv_has ls 4 [(0, .ref a_th), (1, .int x1)] → W p l e (headSpec wsX10_layAnswers { frames := 4, cells := 0, slots := 0, locals := 104 }).room s m [.ref a_th].toArray below meth c H locs 0 0 Q (F0 m 2 ls []) := by
    intro n2
    induction n2 with
    | zero =>
      intro x1 w2 k2 H locs ls hm
      cases (show (none : Option ((Nat → Int32) × (Nat → Int32) × (Nat → Int32) × (Nat → Int32))) = some o from hm)
    | succ n2 ih2 =>
      intro x1 w2 k2 H locs ls hm hk2 hP hS hl
      rw [L_X10_layAnswers_2.eq_2] at hm
      refine lv_iload_n hx hb dX10_layAnswers_2 rfl (lv_at hl 1 rfl) ?_
      refine lv_iconst (v := (5 : Int32)) hx hb dX10_layAnswers_3 (by decide) ?_
      refine lv_icmp_ge (tgt := 58) hx hb dX10_layAnswers_4 (by decide) (fun c4 => ?_) (fun c4 => ?_)
      · replace hm := ite_t c4 hm
        exact hk2 w2 _ _ _ hm hP hS (lv_sub hl [0] rfl)
      · replace hm := ite_f c4 hm
        refine lv_aload_n hx hb dX10_layAnswers_7 rfl (lv_at hl 0 rfl) ?_
        refine va_get (D := (dC, dI)) (ci := 8) (v := .ref a_factOf) (C := RX10) (T := TX10) (N := 31) hx hb hts iX10 hown hK hP 0 rfl rfl 26 (by decide) f48 (fun _ h9 => h9) rfl dX10_layAnswers_8 ?_
        refine lv_iload_n hx hb dX10_layAnswers_11 rfl (lv_at hl 1 rfl) ?_
        refine lv_iconst (v := (0 : Int32)) hx hb dX10_layAnswers_12 (by decide) ?_
        obtain ⟨h5, hm⟩ := gd_s hm
        refine va_iast hx hb hK hP (kb_D hD rfl) hS 1 0 rfl rfl (inB_s h5) dX10_layAnswers_13 (fun H locs hP _ hS => ?_)
        have hP : va_P (dC, dI) vwCl [oX10 a_th (.int v_thrown) q_text (.int v_textSize) (.int v_place) (.ref a_question) (.int v_questionSize) (.int v_facts) (.int v_isSo) (.int v_common) (.int v_readFacts) (.int v_readSo) (.int v_readCommon) (.int v_readDay) q_page (.long v_seed) q_book q_bookSeed (.int v_acts) q_kept q_isKept (.int v_told) q_toldSimple q_toldDay q_toldYes (.ref a_yesOf) (.ref a_noOf) (.ref a_factOf) (.ref a_stack) q_one q_two q_three, aI cI a_factOf 5 (upd w2 (Int32.toNatClampNeg x1) (0 : Int32)), aI cI a_yesOf 931 v_yesOf, aI cI a_noOf 931 v_noOf, aI cI a_question 16 v_question, aI cZ a_stack 17 v_stack] H := hP
        refine lv_iconst (v := (0 : Int32)) hx hb dX10_layAnswers_14 (by decide) ?_
        refine lv_istore_n (lv' := [(2, .int (0 : Int32)), (0, .ref a_th), (1, .int x1)]) hx hb dX10_layAnswers_15 rfl hl (by decide) rfl (fun ls hl => ?_)
        have lp16 : ∀ (n16 : Nat) (x6 : Int32) (w7 : (Nat → Int32)) (k16 : (Nat → Int32) → Option ((Nat → Int32) × (Nat → Int32) × (Nat → Int32) × (Nat → Int32))) (H : Heap) (locs : List Loc) (ls : Array Slot), L_X10_layAnswers_16 x1 n16 x6 w7 k16 = some o → (∀ (w8 : (Nat → Int32)) (H : Heap) (locs : List Loc) (ls : Array Slot), k16 w8 = some o → va_P (dC, dI) vwCl [oX10 a_th (.int v_thrown) q_text (.int v_textSize) (.int v_place) (.ref a_question) (.int v_questionSize) (.int v_facts) (.int v_isSo) (.int v_common) (.int v_readFacts) (.int v_readSo) (.int v_readCommon) (.int v_readDay) q_page (.long v_seed) q_book q_bookSeed (.int v_acts) q_kept q_isKept (.int v_told) q_toldSimple q_toldDay q_toldYes (.ref a_yesOf) (.ref a_noOf) (.ref a_factOf) (.ref a_stack) q_one q_two q_three, aI cI a_factOf 5 w8, aI cI a_yesOf 931 v_yesOf, aI cI a_noOf 931 v_noOf, aI cI a_question 16 v_question, aI cZ a_stack 17 v_stack] H → va_S A s.heap H locs → lv_has ls 4 [(0, .ref a_th), (1, .int x1)] → W p l e (headSpec wsX10_layAnswers { frames := 4, cells := 0, slots := 0, locals := 104 }).room s m [.ref a_th].toArray below meth c H locs 0 0 Q (F0 m 52 ls [])) → va_P (dC, dI) vwCl [oX10 a_th (.int v_thrown) q_text (.int v_textSize) (.int v_place) (.ref a_question) (.int v_questionSize) (.int v_facts) (.int v_isSo) (.int v_common) (.int v_readFacts) (.int v_readSo) (.int v_readCommon) (.int v_readDay) q_page (.long v_seed) q_book q_bookSeed (.int v_acts) q_kept q_isKept (.int v_told) q_toldSimple q_toldDay q_toldYes (.ref a_yesOf) (.ref a_noOf) (.ref a_factOf) (.ref a_stack) q_one q_two q_three, aI cI a_factOf 5 w7, aI cI a_yesOf 931 v_yesOf, aI cI a_noOf 931 v_noOf, aI cI a_question 16 v_question, aI cZ a_stack 17 v_stack] H → va_S A s.heap H locs → lv_has ls 4 [(0, .ref a_th), (1, .int x1), (2, .int x6)] → W p l e (headSpec wsX10_layAnswers { frames := 4, cells := 0, slots := 0, locals := 104 }).room s m [.ref a_th].toArray below meth c H locs 0 0 Q (F0 m 16 ls []) := by
          intro n16
          induction n16 with
          | zero =>
            intro x6 w7 k16 H locs ls hm
            cases (show (none : Option ((Nat → Int32) × (Nat → Int32) × (Nat → Int32) × (Nat → Int32))) = some o from hm)
          | succ n16 ih16 =>
            intro x6 w7 k16 H locs ls hm hk16 hP hS hl
            rw [L_X10_layAnswers_16.eq_2] at hm
            refine lv_iload_n hx hb dX10_layAnswers_16 rfl (lv_at hl 2 rfl) ?_
            refine lv_bipush (v := (32 : Int32)) hx hb dX10_layAnswers_17 (by decide) ?_
            refine lv_icmp_ge (tgt := 52) hx hb dX10_layAnswers_19 (by decide) (fun c9 => ?_) (fun c9 => ?_)
            · replace hm := ite_t c9 hm
              exact hk16 w7 _ _ _ hm hP hS (lv_sub hl [0, 1] rfl)
            · replace hm := ite_f c9 hm
              refine lv_aload_n hx hb dX10_layAnswers_22 rfl (lv_at hl 0 rfl) ?_
              refine va_get (D := (dC, dI)) (ci := 8) (v := .ref a_factOf) (C := RX10) (T := TX10) (N := 31) hx hb hts iX10 hown hK hP 0 rfl rfl 26 (by decide) f48 (fun _ h9 => h9) rfl dX10_layAnswers_23 ?_
              refine lv_iload_n hx hb dX10_layAnswers_26 rfl (lv_at hl 1 rfl) ?_
              refine lv_dup2_11 hx hb dX10_layAnswers_27 rfl rfl ?_
              obtain ⟨h10, hm⟩ := gd_s hm
              refine va_iald hx hb hK hP 1 0 rfl rfl (inB_s h10) dX10_layAnswers_28 ?_
              refine lv_iload_n hx hb dX10_layAnswers_29 rfl (lv_at hl 2 rfl) ?_
              refine lv_iload_n hx hb dX10_layAnswers_30 rfl (lv_at hl 1 rfl) ?_
              obtain ⟨r11, ho12, hm⟩ := bd1_s hm
              refine kb_calli (Rv := r11) (va_runS (As := [.int x6, .int x1]) (rest := [.int (w7 (Int32.toNatClampNeg x1)), .int x1, .ref a_factOf]) ⟨hx, hb, hml, hown, hts⟩ (c_X10_has l dC dI cI cJ cZ cQ t H.size x6 x1 (r11) ho12) (va_cwS 2 hts gX10_layAnswers_X10_has rfl rfl rfl (by decide +kernel) ⟨(Nat.le_of_ble_eq_true rfl), (Nat.le_of_ble_eq_true rfl)⟩) (kb_pre hK hG hP (kb_D hD rfl) hS hA [] rfl (by decide)) rfl rfl hl.1 rfl (lv_room (Nat.le_of_ble_eq_true rfl)) dX10_layAnswers_31 ⟨Nat.zero_le _, Nat.zero_le _⟩) hP (kb_D hD rfl) hS hA [] rfl [(false, 0), (false, 1), (false, 2), (false, 3), (false, 4), (false, 5)] (w2 := [oX10 a_th (.int v_thrown) q_text (.int v_textSize) (.int v_place) (.ref a_question) (.int v_questionSize) (.int v_facts) (.int v_isSo) (.int v_common) (.int v_readFacts) (.int v_readSo) (.int v_readCommon) (.int v_readDay) q_page (.long v_seed) q_book q_bookSeed (.int v_acts) q_kept q_isKept (.int v_told) q_toldSimple q_toldDay q_toldYes (.ref a_yesOf) (.ref a_noOf) (.ref a_factOf) (.ref a_stack) q_one q_two q_three, aI cI a_factOf 5 w7, aI cI a_yesOf 931 v_yesOf, aI cI a_noOf 931 v_noOf, aI cI a_question 16 v_question, aI cZ a_stack 17 v_stack]) rfl (by decide) (fun H locs hP hS => ?_)
              obtain ⟨k44, ek44, hm⟩ := nm_s hm
              have J44 : ∀ (x13 : Int32) (H : Heap) (locs : List Loc) (ls : Array Slot), k44 x13 = some o → va_P (dC, dI) vwCl [oX10 a_th (.int v_thrown) q_text (.int v_textSize) (.int v_place) (.ref a_question) (.int v_questionSize) (.int v_facts) (.int v_isSo) (.int v_common) (.int v_readFacts) (.int v_readSo) (.int v_readCommon) (.int v_readDay) q_page (.long v_seed) q_book q_bookSeed (.int v_acts) q_kept q_isKept (.int v_told) q_toldSimple q_toldDay q_toldYes (.ref a_yesOf) (.ref a_noOf) (.ref a_factOf) (.ref a_stack) q_one q_two q_three, aI cI a_factOf 5 w7, aI cI a_yesOf 931 v_yesOf, aI cI a_noOf 931 v_noOf, aI cI a_question 16 v_question, aI cZ a_stack 17 v_stack] H → va_S A s.heap H locs → lv_has ls 4 [(0, .ref a_th), (1, .int x1), (2, .int x6)] → W p l e (headSpec wsX10_layAnswers { frames := 4, cells := 0, slots := 0, locals := 104 }).room s m [.ref a_th].toArray below meth c H locs 0 0 Q (F0 m 44 ls [.int x13, .int (w7 (Int32.toNatClampNeg x1)), .int x1, .ref a_factOf]) := by
                intro x13 H locs ls hm hP hS hl
                rw [ek44] at hm
                refine lv_ior hx hb dX10_layAnswers_44 ?_
                obtain ⟨h14, hm⟩ := gd_s hm
                refine va_iast hx hb hK hP (kb_D hD rfl) hS 1 0 rfl rfl (inB_s h14) dX10_layAnswers_45 (fun H locs hP _ hS => ?_)
                have hP : va_P (dC, dI) vwCl [oX10 a_th (.int v_thrown) q_text (.int v_textSize) (.int v_place) (.ref a_question) (.int v_questionSize) (.int v_facts) (.int v_isSo) (.int v_common) (.int v_readFacts) (.int v_readSo) (.int v_readCommon) (.int v_readDay) q_page (.long v_seed) q_book q_bookSeed (.int v_acts) q_kept q_isKept (.int v_told) q_toldSimple q_toldDay q_toldYes (.ref a_yesOf) (.ref a_noOf) (.ref a_factOf) (.ref a_stack) q_one q_two q_three, aI cI a_factOf 5 (upd w7 (Int32.toNatClampNeg x1) ((w7 (Int32.toNatClampNeg x1)) ||| x13)), aI cI a_yesOf 931 v_yesOf, aI cI a_noOf 931 v_noOf, aI cI a_question 16 v_question, aI cZ a_stack 17 v_stack] H := hP
                obtain ⟨x15, ex15⟩ : ∃ y : Int32, y = x6 + (1 : Int32) := ⟨_, rfl⟩
                replace hm := nm_t ex15 hm
                refine lv_iinc (v := x15) (lv' := [(2, .int x15), (0, .ref a_th), (1, .int x1)]) hx hb dX10_layAnswers_46 hl (k := 2) rfl (by rw [ex15]; rfl) (by decide) rfl (fun ls hl => ?_)
                refine lv_goto (tgt := 16) hx hb dX10_layAnswers_49 (by decide) ?_
                exact ih16 x15 (upd w7 (Int32.toNatClampNeg x1) ((w7 (Int32.toNatClampNeg x1)) ||| x13)) k16 _ _ _ hm hk16 hP hS (lv_sub hl [1, 2, 0] rfl)
              refine lv_if_eq (tgt := 43) hx hb dX10_layAnswers_34 (by decide) (fun c16 => ?_) (fun c16 => ?_)
              · replace hm := ite_t c16 hm
                refine lv_iconst (v := (0 : Int32)) hx hb dX10_layAnswers_43 (by decide) ?_
                exact J44 (0 : Int32) _ _ _ hm hP hS (lv_sub hl [0, 1, 2] rfl)
              · replace hm := ite_f c16 hm
                refine lv_iconst (v := (1 : Int32)) hx hb dX10_layAnswers_37 (by decide) ?_
                refine lv_iload_n hx hb dX10_layAnswers_38 rfl (lv_at hl 2 rfl) ?_
                refine lv_ishl hx hb dX10_layAnswers_39 ?_
                refine lv_goto (tgt := 44) hx hb dX10_layAnswers_40 (by decide) ?_
                exact J44 ((1 : Int32) <<< (x6 &&& 31)) _ _ _ hm hP hS (lv_sub hl [0, 1, 2] rfl)
        refine lp16 1024 (0 : Int32) (upd w2 (Int32.toNatClampNeg x1) (0 : Int32)) _ _ _ _ hm (fun w8 H locs ls hm hP hS hl => ?_) hP hS (lv_sub hl [1, 2, 0] rfl)
        obtain ⟨x17, ex17⟩ : ∃ y : Int32, y = x1 + (1 : Int32) := ⟨_, rfl⟩
        replace hm := nm_t ex17 hm
        refine lv_iinc (v := x17) (lv' := [(1, .int x17), (0, .ref a_th)]) hx hb dX10_layAnswers_52 hl (k := 1) rfl (by rw [ex17]; rfl) (by decide) rfl (fun ls hl => ?_)
        refine lv_goto (tgt := 2) hx hb dX10_layAnswers_55 (by decide) ?_
        exact ih2 x17 w8 k2 _ _ _ hm hk2 hP hS (lv_sub hl [1, 0] rfl)
  refine lp2 1024 (0 : Int32) v_factOf _ _ _ _ hm (fun w3 H locs ls hm hP hS hl => ?_) hP hS (lv_sub hl [1, 0] rfl)
  refine lv_iconst (v := (0 : Int32)) hx hb dX10_layAnswers_58 (by decide) ?_
  refine lv_istore_n (lv' := [(1, .int (0 : Int32)), (0, .ref a_th)]) hx hb dX10_layAnswers_59 rfl hl (by decide) rfl (fun ls hl => ?_)
  have lp60 : ∀ (n60 : Nat) (x18 : Int32) (w19 : (Nat → Int32)) (w20 : (Nat → Int32)) (w21 : (Nat → Int32)) (k60 : (Nat → Int32) → (Nat → Int32) → (Nat → Int32) → Option ((Nat → Int32) × (Nat → Int32) × (Nat → Int32) × (Nat → Int32))) (H : Heap) (locs : List Loc) (ls : Array Slot), L_X10_layAnswers_60 v_questionSize v_facts v_question n60 x18 w19 w20 w21 k60 = some o → (∀ (w22 : (Nat → Int32)) (w23 : (Nat → Int32)) (w24 : (Nat → Int32)) (H : Heap) (locs : List Loc) (ls : Array Slot), k60 w22 w23 w24 = some o → va_P (dC, dI) vwCl [oX10 a_th (.int v_thrown) q_text (.int v_textSize) (.int v_place) (.ref a_question) (.int v_questionSize) (.int v_facts) (.int v_isSo) (.int v_common) (.int v_readFacts) (.int v_readSo) (.int v_readCommon) (.int v_readDay) q_page (.long v_seed) q_book q_bookSeed (.int v_acts) q_kept q_isKept (.int v_told) q_toldSimple q_toldDay q_toldYes (.ref a_yesOf) (.ref a_noOf) (.ref a_factOf) (.ref a_stack) q_one q_two q_three, aI cI a_factOf 5 w3, aI cI a_yesOf 931 w22, aI cI a_noOf 931 w23, aI cI a_question 16 v_question, aI cZ a_stack 17 w24] H → va_S A s.heap H locs → lv_has ls 4 [] → W p l e (headSpec wsX10_layAnswers { frames := 4, cells := 0, slots := 0, locals := 104 }).room s m [.ref a_th].toArray below meth c H locs 0 0 Q (F0 m 171 ls [])) → va_P (dC, dI) vwCl [oX10 a_th (.int v_thrown) q_text (.int v_textSize) (.int v_place) (.ref a_question) (.int v_questionSize) (.int v_facts) (.int v_isSo) (.int v_common) (.int v_readFacts) (.int v_readSo) (.int v_readCommon) (.int v_readDay) q_page (.long v_seed) q_book q_bookSeed (.int v_acts) q_kept q_isKept (.int v_told) q_toldSimple q_toldDay q_toldYes (.ref a_yesOf) (.ref a_noOf) (.ref a_factOf) (.ref a_stack) q_one q_two q_three, aI cI a_factOf 5 w3, aI cI a_yesOf 931 w19, aI cI a_noOf 931 w20, aI cI a_question 16 v_question, aI cZ a_stack 17 w21] H → va_S A s.heap H locs → lv_has ls 4 [(0, .ref a_th), (1, .int x18)] → W p l e (headSpec wsX10_layAnswers { frames := 4, cells := 0, slots := 0, locals := 104 }).room s m [.ref a_th].toArray below meth c H locs 0 0 Q (F0 m 60 ls []) := by
    intro n60
    induction n60 with
    | zero =>
      intro x18 w19 w20 w21 k60 H locs ls hm
      cases (show (none : Option ((Nat → Int32) × (Nat → Int32) × (Nat → Int32) × (Nat → Int32))) = some o from hm)
    | succ n60 ih60 =>
      intro x18 w19 w20 w21 k60 H locs ls hm hk60 hP hS hl
      rw [L_X10_layAnswers_60.eq_2] at hm
      refine lv_iload_n hx hb dX10_layAnswers_60 rfl (lv_at hl 1 rfl) ?_
      refine lv_sipush (v := (931 : Int32)) hx hb dX10_layAnswers_61 (by decide) ?_
      refine lv_icmp_ge (tgt := 171) hx hb dX10_layAnswers_64 (by decide) (fun c25 => ?_) (fun c25 => ?_)
      · replace hm := ite_t c25 hm
        exact hk60 w19 w20 w21 _ _ _ hm hP hS (lv_sub hl [] rfl)
      · replace hm := ite_f c25 hm
        refine lv_aload_n hx hb dX10_layAnswers_67 rfl (lv_at hl 0 rfl) ?_
        refine va_get (D := (dC, dI)) (ci := 8) (v := .ref a_yesOf) (C := RX10) (T := TX10) (N := 31) hx hb hts iX10 hown hK hP 0 rfl rfl 24 (by decide) f42 (fun _ h9 => h9) rfl dX10_layAnswers_68 ?_
        refine lv_iload_n hx hb dX10_layAnswers_71 rfl (lv_at hl 1 rfl) ?_
        refine lv_iconst (v := (0 : Int32)) hx hb dX10_layAnswers_72 (by decide) ?_
        obtain ⟨h26, hm⟩ := gd_s hm
        refine va_iast hx hb hK hP (kb_D hD rfl) hS 2 0 rfl rfl (inB_s h26) dX10_layAnswers_73 (fun H locs hP _ hS => ?_)
        have hP : va_P (dC, dI) vwCl [oX10 a_th (.int v_thrown) q_text (.int v_textSize) (.int v_place) (.ref a_question) (.int v_questionSize) (.int v_facts) (.int v_isSo) (.int v_common) (.int v_readFacts) (.int v_readSo) (.int v_readCommon) (.int v_readDay) q_page (.long v_seed) q_book q_bookSeed (.int v_acts) q_kept q_isKept (.int v_told) q_toldSimple q_toldDay q_toldYes (.ref a_yesOf) (.ref a_noOf) (.ref a_factOf) (.ref a_stack) q_one q_two q_three, aI cI a_factOf 5 w3, aI cI a_yesOf 931 (upd w19 (Int32.toNatClampNeg x18) (0 : Int32)), aI cI a_noOf 931 w20, aI cI a_question 16 v_question, aI cZ a_stack 17 w21] H := hP
        refine lv_aload_n hx hb dX10_layAnswers_74 rfl (lv_at hl 0 rfl) ?_
        refine va_get (D := (dC, dI)) (ci := 8) (v := .ref a_noOf) (C := RX10) (T := TX10) (N := 31) hx hb hts iX10 hown hK hP 0 rfl rfl 25 (by decide) f45 (fun _ h9 => h9) rfl dX10_layAnswers_75 ?_
        refine lv_iload_n hx hb dX10_layAnswers_78 rfl (lv_at hl 1 rfl) ?_
        refine lv_iconst (v := (0 : Int32)) hx hb dX10_layAnswers_79 (by decide) ?_
        obtain ⟨h27, hm⟩ := gd_s hm
        refine va_iast hx hb hK hP (kb_D hD rfl) hS 3 0 rfl rfl (inB_s h27) dX10_layAnswers_80 (fun H locs hP _ hS => ?_)
        have hP : va_P (dC, dI) vwCl [oX10 a_th (.int v_thrown) q_text (.int v_textSize) (.int v_place) (.ref a_question) (.int v_questionSize) (.int v_facts) (.int v_isSo) (.int v_common) (.int v_readFacts) (.int v_readSo) (.int v_readCommon) (.int v_readDay) q_page (.long v_seed) q_book q_bookSeed (.int v_acts) q_kept q_isKept (.int v_told) q_toldSimple q_toldDay q_toldYes (.ref a_yesOf) (.ref a_noOf) (.ref a_factOf) (.ref a_stack) q_one q_two q_three, aI cI a_factOf 5 w3, aI cI a_yesOf 931 (upd w19 (Int32.toNatClampNeg x18) (0 : Int32)), aI cI a_noOf 931 (upd w20 (Int32.toNatClampNeg x18) (0 : Int32)), aI cI a_question 16 v_question, aI cZ a_stack 17 w21] H := hP
        refine lv_iconst (v := (0 : Int32)) hx hb dX10_layAnswers_81 (by decide) ?_
        refine lv_istore_n (lv' := [(2, .int (0 : Int32)), (0, .ref a_th), (1, .int x18)]) hx hb dX10_layAnswers_82 rfl hl (by decide) rfl (fun ls hl => ?_)
        have lp83 : ∀ (n83 : Nat) (x28 : Int32) (w29 : (Nat → Int32)) (w30 : (Nat → Int32)) (w31 : (Nat → Int32)) (k83 : (Nat → Int32) → (Nat → Int32) → (Nat → Int32) → Option ((Nat → Int32) × (Nat → Int32) × (Nat → Int32) × (Nat → Int32))) (H : Heap) (locs : List Loc) (ls : Array Slot), L_X10_layAnswers_83 v_questionSize v_facts v_question x18 n83 x28 w29 w30 w31 k83 = some o → (∀ (w32 : (Nat → Int32)) (w33 : (Nat → Int32)) (w34 : (Nat → Int32)) (H : Heap) (locs : List Loc) (ls : Array Slot), k83 w32 w33 w34 = some o → va_P (dC, dI) vwCl [oX10 a_th (.int v_thrown) q_text (.int v_textSize) (.int v_place) (.ref a_question) (.int v_questionSize) (.int v_facts) (.int v_isSo) (.int v_common) (.int v_readFacts) (.int v_readSo) (.int v_readCommon) (.int v_readDay) q_page (.long v_seed) q_book q_bookSeed (.int v_acts) q_kept q_isKept (.int v_told) q_toldSimple q_toldDay q_toldYes (.ref a_yesOf) (.ref a_noOf) (.ref a_factOf) (.ref a_stack) q_one q_two q_three, aI cI a_factOf 5 w3, aI cI a_yesOf 931 w32, aI cI a_noOf 931 w33, aI cI a_question 16 v_question, aI cZ a_stack 17 w34] H → va_S A s.heap H locs → lv_has ls 4 [(0, .ref a_th), (1, .int x18)] → W p l e (headSpec wsX10_layAnswers { frames := 4, cells := 0, slots := 0, locals := 104 }).room s m [.ref a_th].toArray below meth c H locs 0 0 Q (F0 m 165 ls [])) → va_P (dC, dI) vwCl [oX10 a_th (.int v_thrown) q_text (.int v_textSize) (.int v_place) (.ref a_question) (.int v_questionSize) (.int v_facts) (.int v_isSo) (.int v_common) (.int v_readFacts) (.int v_readSo) (.int v_readCommon) (.int v_readDay) q_page (.long v_seed) q_book q_bookSeed (.int v_acts) q_kept q_isKept (.int v_told) q_toldSimple q_toldDay q_toldYes (.ref a_yesOf) (.ref a_noOf) (.ref a_factOf) (.ref a_stack) q_one q_two q_three, aI cI a_factOf 5 w3, aI cI a_yesOf 931 w29, aI cI a_noOf 931 w30, aI cI a_question 16 v_question, aI cZ a_stack 17 w31] H → va_S A s.heap H locs → lv_has ls 4 [(0, .ref a_th), (1, .int x18), (2, .int x28)] → W p l e (headSpec wsX10_layAnswers { frames := 4, cells := 0, slots := 0, locals := 104 }).room s m [.ref a_th].toArray below meth c H locs 0 0 Q (F0 m 83 ls []) := by
          intro n83
          induction n83 with
          | zero =>
            intro x28 w29 w30 w31 k83 H locs ls hm
            cases (show (none : Option ((Nat → Int32) × (Nat → Int32) × (Nat → Int32) × (Nat → Int32))) = some o from hm)
          | succ n83 ih83 =>
            intro x28 w29 w30 w31 k83 H locs ls hm hk83 hP hS hl
            rw [L_X10_layAnswers_83.eq_2] at hm
            refine lv_iload_n hx hb dX10_layAnswers_83 rfl (lv_at hl 2 rfl) ?_
            refine lv_iconst (v := (1 : Int32)) hx hb dX10_layAnswers_84 (by decide) ?_
            refine lv_aload_n hx hb dX10_layAnswers_85 rfl (lv_at hl 0 rfl) ?_
            refine va_get (D := (dC, dI)) (ci := 8) (v := .int v_facts) (C := RX10) (T := TX10) (N := 31) hx hb hts iX10 hown hK hP 0 rfl rfl 6 (by decide) f102 (fun _ h9 => h9) rfl dX10_layAnswers_86 ?_
            refine lv_ishl hx hb dX10_layAnswers_89 ?_
            refine lv_icmp_ge (tgt := 165) hx hb dX10_layAnswers_90 (by decide) (fun c35 => ?_) (fun c35 => ?_)
            · replace hm := ite_t c35 hm
              exact hk83 w29 w30 w31 _ _ _ hm hP hS (lv_sub hl [0, 1] rfl)
            · replace hm := ite_f c35 hm
              refine lv_aload_n hx hb dX10_layAnswers_93 rfl (lv_at hl 0 rfl) ?_
              refine lv_iload_n hx hb dX10_layAnswers_94 rfl (lv_at hl 1 rfl) ?_
              refine lv_bipush (v := (49 : Int32)) hx hb dX10_layAnswers_95 (by decide) ?_
              refine lv_idiv hx hb dX10_layAnswers_97 (by decide) ?_
              refine lv_iload_n hx hb dX10_layAnswers_98 rfl (lv_at hl 1 rfl) ?_
              refine lv_bipush (v := (7 : Int32)) hx hb dX10_layAnswers_99 (by decide) ?_
              refine lv_idiv hx hb dX10_layAnswers_101 (by decide) ?_
              refine lv_bipush (v := (7 : Int32)) hx hb dX10_layAnswers_102 (by decide) ?_
              refine lv_irem hx hb dX10_layAnswers_104 (by decide) ?_
              refine lv_iload_n hx hb dX10_layAnswers_105 rfl (lv_at hl 1 rfl) ?_
              refine lv_bipush (v := (7 : Int32)) hx hb dX10_layAnswers_106 (by decide) ?_
              refine lv_irem hx hb dX10_layAnswers_108 (by decide) ?_
              refine lv_iload_n hx hb dX10_layAnswers_109 rfl (lv_at hl 1 rfl) ?_
              refine lv_bipush (v := (7 : Int32)) hx hb dX10_layAnswers_110 (by decide) ?_
              refine lv_irem hx hb dX10_layAnswers_112 (by decide) ?_
              refine lv_iload_n hx hb dX10_layAnswers_113 rfl (lv_at hl 2 rfl) ?_
              obtain ⟨r36, w37, ho38, hm⟩ := bd2_s hm
              refine kb_calli (Rv := r36) (va_runV (As := [.int (x18 / (49 : Int32)), .int ((x18 / (7 : Int32)) - (x18 / (7 : Int32)) / (7 : Int32) * (7 : Int32)), .int (x18 - x18 / (7 : Int32) * (7 : Int32)), .int (x18 - x18 / (7 : Int32) * (7 : Int32)), .int x28]) (rest := []) ⟨hx, hb, hml, hown, hts⟩ (c_X10_answerOf l dC dI cI cJ cZ cQ t H.size a_th a_question a_stack q_text q_page q_book q_bookSeed q_kept q_isKept q_toldSimple q_toldDay q_toldYes (.ref a_yesOf) (.ref a_noOf) (.ref a_factOf) q_one q_two q_three v_thrown v_textSize v_place v_questionSize v_facts v_isSo v_common v_readFacts v_readSo v_readCommon v_readDay v_seed v_acts v_told v_question w31 (x18 / (49 : Int32)) ((x18 / (7 : Int32)) - (x18 / (7 : Int32)) / (7 : Int32) * (7 : Int32)) (x18 - x18 / (7 : Int32) * (7 : Int32)) (x18 - x18 / (7 : Int32) * (7 : Int32)) x28 (r36, w37) ho38) (cwV 5 hts gX10_layAnswers_X10_answerOf rfl rfl rfl (by decide +kernel) ⟨(Nat.le_of_ble_eq_true rfl), (Nat.le_of_ble_eq_true rfl)⟩) ⟨(kb_pre hK hG hP (kb_D hD rfl) hS hA [0, 4, 5] rfl (by decide)).1, (va_recv hK hP (ci := 8) (q0 := 0) rfl rfl), (kb_pre hK hG hP (kb_D hD rfl) hS hA [0, 4, 5] rfl (by decide)).2⟩ rfl rfl hl.1 rfl (lv_room (Nat.le_of_ble_eq_true rfl)) dX10_layAnswers_114 ⟨Nat.zero_le _, Nat.zero_le _⟩) hP (kb_D hD rfl) hS hA [0, 4, 5] rfl [(true, 0), (false, 1), (false, 2), (false, 3), (true, 1), (true, 2)] (w2 := [oX10 a_th (.int v_thrown) q_text (.int v_textSize) (.int v_place) (.ref a_question) (.int v_questionSize) (.int v_facts) (.int v_isSo) (.int v_common) (.int v_readFacts) (.int v_readSo) (.int v_readCommon) (.int v_readDay) q_page (.long v_seed) q_book q_bookSeed (.int v_acts) q_kept q_isKept (.int v_told) q_toldSimple q_toldDay q_toldYes (.ref a_yesOf) (.ref a_noOf) (.ref a_factOf) (.ref a_stack) q_one q_two q_three, aI cI a_factOf 5 w3, aI cI a_yesOf 931 w29, aI cI a_noOf 931 w30, aI cI a_question 16 v_question, aI cZ a_stack 17 w37]) rfl (by decide) (fun H locs hP hS => ?_)
              refine lv_istore_n (lv' := [(3, .int r36), (0, .ref a_th), (1, .int x18), (2, .int x28)]) hx hb dX10_layAnswers_117 rfl hl (by decide) rfl (fun ls hl => ?_)
              refine lv_aload_n hx hb dX10_layAnswers_118 rfl (lv_at hl 1 rfl) ?_
              refine va_get (D := (dC, dI)) (ci := 8) (v := .ref a_yesOf) (C := RX10) (T := TX10) (N := 31) hx hb hts iX10 hown hK hP 0 rfl rfl 24 (by decide) f42 (fun _ h9 => h9) rfl dX10_layAnswers_119 ?_
              refine lv_iload_n hx hb dX10_layAnswers_122 rfl (lv_at hl 2 rfl) ?_
              refine lv_dup2_11 hx hb dX10_layAnswers_123 rfl rfl ?_
              obtain ⟨h39, hm⟩ := gd_s hm
              refine va_iald hx hb hK hP 2 0 rfl rfl (inB_s h39) dX10_layAnswers_124 ?_
              refine lv_iload_n hx hb dX10_layAnswers_125 rfl (lv_at hl 0 rfl) ?_
              refine lv_iconst (v := (1 : Int32)) hx hb dX10_layAnswers_126 (by decide) ?_
              obtain ⟨k137, ek137, hm⟩ := nm_s hm
              have J137 : ∀ (x40 : Int32) (H : Heap) (locs : List Loc) (ls : Array Slot), k137 x40 = some o → va_P (dC, dI) vwCl [oX10 a_th (.int v_thrown) q_text (.int v_textSize) (.int v_place) (.ref a_question) (.int v_questionSize) (.int v_facts) (.int v_isSo) (.int v_common) (.int v_readFacts) (.int v_readSo) (.int v_readCommon) (.int v_readDay) q_page (.long v_seed) q_book q_bookSeed (.int v_acts) q_kept q_isKept (.int v_told) q_toldSimple q_toldDay q_toldYes (.ref a_yesOf) (.ref a_noOf) (.ref a_factOf) (.ref a_stack) q_one q_two q_three, aI cI a_factOf 5 w3, aI cI a_yesOf 931 w29, aI cI a_noOf 931 w30, aI cI a_question 16 v_question, aI cZ a_stack 17 w37] H → va_S A s.heap H locs → lv_has ls 4 [(0, .ref a_th), (1, .int x18), (2, .int x28), (3, .int r36)] → W p l e (headSpec wsX10_layAnswers { frames := 4, cells := 0, slots := 0, locals := 104 }).room s m [.ref a_th].toArray below meth c H locs 0 0 Q (F0 m 137 ls [.int x40, .int (w29 (Int32.toNatClampNeg x18)), .int x18, .ref a_yesOf]) := by
                intro x40 H locs ls hm hP hS hl
                rw [ek137] at hm
                refine lv_ior hx hb dX10_layAnswers_137 ?_
                obtain ⟨h41, hm⟩ := gd_s hm
                refine va_iast hx hb hK hP (kb_D hD rfl) hS 2 0 rfl rfl (inB_s h41) dX10_layAnswers_138 (fun H locs hP _ hS => ?_)
                have hP : va_P (dC, dI) vwCl [oX10 a_th (.int v_thrown) q_text (.int v_textSize) (.int v_place) (.ref a_question) (.int v_questionSize) (.int v_facts) (.int v_isSo) (.int v_common) (.int v_readFacts) (.int v_readSo) (.int v_readCommon) (.int v_readDay) q_page (.long v_seed) q_book q_bookSeed (.int v_acts) q_kept q_isKept (.int v_told) q_toldSimple q_toldDay q_toldYes (.ref a_yesOf) (.ref a_noOf) (.ref a_factOf) (.ref a_stack) q_one q_two q_three, aI cI a_factOf 5 w3, aI cI a_yesOf 931 (upd w29 (Int32.toNatClampNeg x18) ((w29 (Int32.toNatClampNeg x18)) ||| x40)), aI cI a_noOf 931 w30, aI cI a_question 16 v_question, aI cZ a_stack 17 w37] H := hP
                refine lv_aload_n hx hb dX10_layAnswers_139 rfl (lv_at hl 0 rfl) ?_
                refine va_get (D := (dC, dI)) (ci := 8) (v := .ref a_noOf) (C := RX10) (T := TX10) (N := 31) hx hb hts iX10 hown hK hP 0 rfl rfl 25 (by decide) f45 (fun _ h9 => h9) rfl dX10_layAnswers_140 ?_
                refine lv_iload_n hx hb dX10_layAnswers_143 rfl (lv_at hl 1 rfl) ?_
                refine lv_dup2_11 hx hb dX10_layAnswers_144 rfl rfl ?_
                obtain ⟨h42, hm⟩ := gd_s hm
                refine va_iald hx hb hK hP 3 0 rfl rfl (inB_s h42) dX10_layAnswers_145 ?_
                refine lv_iload_n hx hb dX10_layAnswers_146 rfl (lv_at hl 3 rfl) ?_
                obtain ⟨k157, ek157, hm⟩ := nm_s hm
                have J157 : ∀ (x43 : Int32) (H : Heap) (locs : List Loc) (ls : Array Slot), k157 x43 = some o → va_P (dC, dI) vwCl [oX10 a_th (.int v_thrown) q_text (.int v_textSize) (.int v_place) (.ref a_question) (.int v_questionSize) (.int v_facts) (.int v_isSo) (.int v_common) (.int v_readFacts) (.int v_readSo) (.int v_readCommon) (.int v_readDay) q_page (.long v_seed) q_book q_bookSeed (.int v_acts) q_kept q_isKept (.int v_told) q_toldSimple q_toldDay q_toldYes (.ref a_yesOf) (.ref a_noOf) (.ref a_factOf) (.ref a_stack) q_one q_two q_three, aI cI a_factOf 5 w3, aI cI a_yesOf 931 (upd w29 (Int32.toNatClampNeg x18) ((w29 (Int32.toNatClampNeg x18)) ||| x40)), aI cI a_noOf 931 w30, aI cI a_question 16 v_question, aI cZ a_stack 17 w37] H → va_S A s.heap H locs → lv_has ls 4 [(0, .ref a_th), (1, .int x18), (2, .int x28)] → W p l e (headSpec wsX10_layAnswers { frames := 4, cells := 0, slots := 0, locals := 104 }).room s m [.ref a_th].toArray below meth c H locs 0 0 Q (F0 m 157 ls [.int x43, .int (w30 (Int32.toNatClampNeg x18)), .int x18, .ref a_noOf]) := by
                  intro x43 H locs ls hm hP hS hl
                  rw [ek157] at hm
                  refine lv_ior hx hb dX10_layAnswers_157 ?_
                  obtain ⟨h44, hm⟩ := gd_s hm
                  refine va_iast hx hb hK hP (kb_D hD rfl) hS 3 0 rfl rfl (inB_s h44) dX10_layAnswers_158 (fun H locs hP _ hS => ?_)
                  have hP : va_P (dC, dI) vwCl [oX10 a_th (.int v_thrown) q_text (.int v_textSize) (.int v_place) (.ref a_question) (.int v_questionSize) (.int v_facts) (.int v_isSo) (.int v_common) (.int v_readFacts) (.int v_readSo) (.int v_readCommon) (.int v_readDay) q_page (.long v_seed) q_book q_bookSeed (.int v_acts) q_kept q_isKept (.int v_told) q_toldSimple q_toldDay q_toldYes (.ref a_yesOf) (.ref a_noOf) (.ref a_factOf) (.ref a_stack) q_one q_two q_three, aI cI a_factOf 5 w3, aI cI a_yesOf 931 (upd w29 (Int32.toNatClampNeg x18) ((w29 (Int32.toNatClampNeg x18)) ||| x40)), aI cI a_noOf 931 (upd w30 (Int32.toNatClampNeg x18) ((w30 (Int32.toNatClampNeg x18)) ||| x43)), aI cI a_question 16 v_question, aI cZ a_stack 17 w37] H := hP
                  obtain ⟨x45, ex45⟩ : ∃ y : Int32, y = x28 + (1 : Int32) := ⟨_, rfl⟩
                  replace hm := nm_t ex45 hm
                  refine lv_iinc (v := x45) (lv' := [(2, .int x45), (0, .ref a_th), (1, .int x18)]) hx hb dX10_layAnswers_159 hl (k := 2) rfl (by rw [ex45]; rfl) (by decide) rfl (fun ls hl => ?_)
                  refine lv_goto (tgt := 83) hx hb dX10_layAnswers_162 (by decide) ?_
                  exact ih83 x45 (upd w29 (Int32.toNatClampNeg x18) ((w29 (Int32.toNatClampNeg x18)) ||| x40)) (upd w30 (Int32.toNatClampNeg x18) ((w30 (Int32.toNatClampNeg x18)) ||| x43)) w37 k83 _ _ _ hm hk83 hP hS (lv_sub hl [1, 2, 0] rfl)
                refine lv_if_ne (tgt := 156) hx hb dX10_layAnswers_147 (by decide) (fun c46 => ?_) (fun c46 => ?_)
                · replace hm := ite_f c46 hm
                  refine lv_iconst (v := (0 : Int32)) hx hb dX10_layAnswers_156 (by decide) ?_
                  exact J157 (0 : Int32) _ _ _ hm hP hS (lv_sub hl [0, 1, 2] rfl)
                · replace hm := ite_t c46 hm
                  refine lv_iconst (v := (1 : Int32)) hx hb dX10_layAnswers_150 (by decide) ?_
                  refine lv_iload_n hx hb dX10_layAnswers_151 rfl (lv_at hl 2 rfl) ?_
                  refine lv_ishl hx hb dX10_layAnswers_152 ?_
                  refine lv_goto (tgt := 157) hx hb dX10_layAnswers_153 (by decide) ?_
                  exact J157 ((1 : Int32) <<< (x28 &&& 31)) _ _ _ hm hP hS (lv_sub hl [0, 1, 2] rfl)
              refine lv_icmp_ne (tgt := 136) hx hb dX10_layAnswers_127 (by decide) (fun c47 => ?_) (fun c47 => ?_)
              · replace hm := ite_f c47 hm
                refine lv_iconst (v := (0 : Int32)) hx hb dX10_layAnswers_136 (by decide) ?_
                exact J137 (0 : Int32) _ _ _ hm hP hS (lv_sub hl [1, 2, 3, 0] rfl)
              · replace hm := ite_t c47 hm
                refine lv_iconst (v := (1 : Int32)) hx hb dX10_layAnswers_130 (by decide) ?_
                refine lv_iload_n hx hb dX10_layAnswers_131 rfl (lv_at hl 3 rfl) ?_
                refine lv_ishl hx hb dX10_layAnswers_132 ?_
                refine lv_goto (tgt := 137) hx hb dX10_layAnswers_133 (by decide) ?_
                exact J137 ((1 : Int32) <<< (x28 &&& 31)) _ _ _ hm hP hS (lv_sub hl [1, 2, 3, 0] rfl)
        refine lp83 1024 (0 : Int32) (upd w19 (Int32.toNatClampNeg x18) (0 : Int32)) (upd w20 (Int32.toNatClampNeg x18) (0 : Int32)) w21 _ _ _ _ hm (fun w32 w33 w34 H locs ls hm hP hS hl => ?_) hP hS (lv_sub hl [1, 2, 0] rfl)
        obtain ⟨x48, ex48⟩ : ∃ y : Int32, y = x18 + (1 : Int32) := ⟨_, rfl⟩
        replace hm := nm_t ex48 hm
        refine lv_iinc (v := x48) (lv' := [(1, .int x48), (0, .ref a_th)]) hx hb dX10_layAnswers_165 hl (k := 1) rfl (by rw [ex48]; rfl) (by decide) rfl (fun ls hl => ?_)
        refine lv_goto (tgt := 60) hx hb dX10_layAnswers_168 (by decide) ?_
        exact ih60 x48 w32 w33 w34 k60 _ _ _ hm hk60 hP hS (lv_sub hl [1, 0] rfl)
  refine lp60 1024 (0 : Int32) v_yesOf v_noOf v_stack _ _ _ _ hm (fun w22 w23 w24 H locs ls hm hP hS hl => ?_) hP hS (lv_sub hl [1, 0] rfl)
  obtain rfl := Option.some.inj hm
  subst hQ
  exact W.vret hx hb hr (fun t ht hW => ⟨⟨(), rfl, trivial, kb_h hP ht⟩, hS.F ht⟩) hS.2.2 dX10_layAnswers_171
set_option maxHeartbeats 4000000 in
set_option maxRecDepth 100000 in
theorem c_X10_agreed (l : Launch) (dC : Nat → ClassId) (dI : Nat → Nat → Nat) (cI cJ cZ cQ : ClassId) (t sz : Nat) (a_th : Nat) (q_text : Value) (q_question : Value) (q_page : Value) (q_book : Value) (q_bookSeed : Value) (q_kept : Value) (q_isKept : Value) (q_toldSimple : Value) (q_toldDay : Value) (q_toldYes : Value) (q_yesOf : Value) (q_noOf : Value) (q_factOf : Value) (q_stack : Value) (q_one : Value) (q_two : Value) (q_three : Value) (v_thrown : Int32) (v_textSize : Int32) (v_place : Int32) (v_questionSize : Int32) (v_facts : Int32) (v_isSo : Int32) (v_common : Int32) (v_readFacts : Int32) (v_readSo : Int32) (v_readCommon : Int32) (v_readDay : Int32) (v_seed : Int64) (v_acts : Int32) (v_told : Int32) (o : Int32) (hm : m_X10_agreed v_facts v_isSo v_common = some o) : Met l yX10_agreed wsX10_agreed { frames := 0, cells := 0, slots := 0, locals := 0 } (va_Pc [.ref a_th] (cP (dC, dI) (kT cI cJ cZ cQ) t sz [oX10 a_th (.int v_thrown) q_text (.int v_textSize) (.int v_place) q_question (.int v_questionSize) (.int v_facts) (.int v_isSo) (.int v_common) (.int v_readFacts) (.int v_readSo) (.int v_readCommon) (.int v_readDay) q_page (.long v_seed) q_book q_bookSeed (.int v_acts) q_kept q_isKept (.int v_told) q_toldSimple q_toldDay q_toldYes q_yesOf q_noOf q_factOf q_stack q_one q_two q_three])) (cQi (dC, dI) (va_A [oX10 a_th (.int v_thrown) q_text (.int v_textSize) (.int v_place) q_question (.int v_questionSize) (.int v_facts) (.int v_isSo) (.int v_common) (.int v_readFacts) (.int v_readSo) (.int v_readCommon) (.int v_readDay) q_page (.long v_seed) q_book q_bookSeed (.int v_acts) q_kept q_isKept (.int v_told) q_toldSimple q_toldDay q_toldYes q_yesOf q_noOf q_factOf q_stack q_one q_two q_three] sz) o [oX10 a_th (.int v_thrown) q_text (.int v_textSize) (.int v_place) q_question (.int v_questionSize) (.int v_facts) (.int v_isSo) (.int v_common) (.int v_readFacts) (.int v_readSo) (.int v_readCommon) (.int v_readDay) q_page (.long v_seed) q_book q_bookSeed (.int v_acts) q_kept q_isKept (.int v_told) q_toldSimple q_toldDay q_toldYes q_yesOf q_noOf q_factOf q_stack q_one q_two q_three]) 0 0 (va_A [oX10 a_th (.int v_thrown) q_text (.int v_textSize) (.int v_place) q_question (.int v_questionSize) (.int v_facts) (.int v_isSo) (.int v_common) (.int v_readFacts) (.int v_readSo) (.int v_readCommon) (.int v_readDay) q_page (.long v_seed) q_book q_bookSeed (.int v_acts) q_kept q_isKept (.int v_told) q_toldSimple q_toldDay q_toldYes q_yesOf q_noOf q_factOf q_stack q_one q_two q_three] sz) := by
  refine Met.ofW (cc := cX10_agreed) (maxL := 3) (ret := (some .int)) (by decide) rfl ?_
  intro p e s m args below meth c s₁ B hml hv
  obtain ⟨rfl, hsz, hP, hK, hD0, hG⟩ := hv
  have hx := B.exec
  have hb := B.bytes
  have hr := B.returns
  have hts := atoms_spec (ws := wsX10_agreed) B.pre
  have hown : s.vm.findClass RX10 = some m.cls := findClass_of_methodNamed B.named
  have hlocks := B.notSynchronized
  subst hsz
  have hD := hD0.self (sz := s.heap.size)
  generalize hAe : va_A [oX10 a_th (.int v_thrown) q_text (.int v_textSize) (.int v_place) q_question (.int v_questionSize) (.int v_facts) (.int v_isSo) (.int v_common) (.int v_readFacts) (.int v_readSo) (.int v_readCommon) (.int v_readDay) q_page (.long v_seed) q_book q_bookSeed (.int v_acts) q_kept q_isKept (.int v_told) q_toldSimple q_toldDay q_toldYes q_yesOf q_noOf q_factOf q_stack q_one q_two q_three] s.heap.size = A at hD hG ⊢
  have hA : ∀ q : Nat, s.heap.size ≤ q → A q := fun q h => by rw [← hAe]; exact Or.inr h
  have hS : va_S A s.heap s.heap [] := va_S.rf
  have hl := lv_entry ([.ref a_th]) (n := 3) (Nat.le_of_ble_eq_true rfl)
  rw [lg_entry_eq]
  generalize (lg_sl ([.ref a_th]) ++ List.replicate (3 - (lg_sl ([.ref a_th])).length) Slot.unset).toArray = ls at hl ⊢
  have hl : lv_has ls 3 [(0, .ref a_th)] := hl
  have iX10 : ∀ w ∈ wsX100, w ∈ wsX10_agreed := fun _ h => List.mem_cons_of_mem _ (List.mem_append_right _ h)
  have f102 := hts (.fieldLink RX10 102 "TrueOnceWeekModel" "facts" "I") (by decide +kernel)
  have f105 := hts (.fieldLink RX10 105 "TrueOnceWeekModel" "isSo" "I") (by decide +kernel)
  have f108 := hts (.fieldLink RX10 108 "TrueOnceWeekModel" "common" "I") (by decide +kernel)
  refine kb_gen (fun Q hQ => ?_)
  unfold m_X10_agreed at hm
  refine lv_iconst (v := (0 : Int32)) hx hb dX10_agreed_0 (by decide) ?_
  refine lv_istore_n (lv' := [(1, .int (0 : Int32)), (0, .ref a_th)]) hx hb dX10_agreed_1 rfl hl (by decide) rfl (fun ls hl => ?_)
  refine lv_iconst (v := (0 : Int32)) hx hb dX10_agreed_2 (by decide) ?_
  refine lv_istore_n (lv' := [(2, .int (0 : Int32)), (1, .int (0 : Int32)), (0, .ref a_th)]) hx hb dX10_agreed_3 rfl hl (by decide) rfl (fun ls hl => ?_)
  have lp4 : ∀ (n4 : Nat) (x1 : Int32) (x2 : Int32) (k4 : Int32 → Option (Int32)) (H : Heap) (locs : List Loc) (ls : Array Slot), L_X10_agreed_4 v_facts v_isSo v_common n4 x1 x2 k4 = some o → (∀ (x3 : Int32) (H : Heap) (locs : List Loc) (ls : Array Slot), k4 x3 = some o → va_P (dC, dI) vwCl [oX10 a_th (.int v_thrown) q_text (.int v_textSize) (.int v_place) q_question (.int v_questionSize) (.int v_facts) (.int v_isSo) (.int v_common) (.int v_readFacts) (.int v_readSo) (.int v_readCommon) (.int v_readDay) q_page (.long v_seed) q_book q_bookSeed (.int v_acts) q_kept q_isKept (.int v_told) q_toldSimple q_toldDay q_toldYes q_yesOf q_noOf q_factOf q_stack q_one q_two q_three] H → va_S A s.heap H locs → lv_has ls 3 [(1, .int x3)] → W p l e (headSpec wsX10_agreed { frames := 0, cells := 0, slots := 0, locals := 0 }).room s m [.ref a_th].toArray below meth c H locs 0 0 Q (F0 m 44 ls [])) → va_P (dC, dI) vwCl [oX10 a_th (.int v_thrown) q_text (.int v_textSize) (.int v_place) q_question (.int v_questionSize) (.int v_facts) (.int v_isSo) (.int v_common) (.int v_readFacts) (.int v_readSo) (.int v_readCommon) (.int v_readDay) q_page (.long v_seed) q_book q_bookSeed (.int v_acts) q_kept q_isKept (.int v_told) q_toldSimple q_toldDay q_toldYes q_yesOf q_noOf q_factOf q_stack q_one q_two q_three] H → va_S A s.heap H locs → lv_has ls 3 [(0, .ref a_th), (1, .int x1), (2, .int x2)] → W p l e (headSpec wsX10_agreed { frames := 0, cells := 0, slots := 0, locals := 0 }).room s m [.ref a_th].toArray below meth c H locs 0 0 Q (F0 m 4 ls []) := by
    intro n4
    induction n4 with
    | zero =>
      intro x1 x2 k4 H locs ls hm
      cases (show (none : Option (Int32)) = some o from hm)
    | succ n4 ih4 =>
      intro x1 x2 k4 H locs ls hm hk4 hP hS hl
      rw [L_X10_agreed_4.eq_2] at hm
      refine lv_iload_n hx hb dX10_agreed_4 rfl (lv_at hl 2 rfl) ?_
      refine lv_iconst (v := (1 : Int32)) hx hb dX10_agreed_5 (by decide) ?_
      refine lv_aload_n hx hb dX10_agreed_6 rfl (lv_at hl 0 rfl) ?_
      refine va_get (D := (dC, dI)) (ci := 8) (v := .int v_facts) (C := RX10) (T := TX10) (N := 31) hx hb hts iX10 hown hK hP 0 rfl rfl 6 (by decide) f102 (fun _ h9 => h9) rfl dX10_agreed_7 ?_
      refine lv_ishl hx hb dX10_agreed_10 ?_
      refine lv_icmp_ge (tgt := 44) hx hb dX10_agreed_11 (by decide) (fun c4 => ?_) (fun c4 => ?_)
      · replace hm := ite_t c4 hm
        exact hk4 x1 _ _ _ hm hP hS (lv_sub hl [1] rfl)
      · replace hm := ite_f c4 hm
        refine lv_iload_n hx hb dX10_agreed_14 rfl (lv_at hl 1 rfl) ?_
        refine lv_iload_n hx hb dX10_agreed_15 rfl (lv_at hl 2 rfl) ?_
        refine lv_aload_n hx hb dX10_agreed_16 rfl (lv_at hl 0 rfl) ?_
        refine va_get (D := (dC, dI)) (ci := 8) (v := .int v_isSo) (C := RX10) (T := TX10) (N := 31) hx hb hts iX10 hown hK hP 0 rfl rfl 7 (by decide) f105 (fun _ h9 => h9) rfl dX10_agreed_17 ?_
        refine lv_ixor hx hb dX10_agreed_20 ?_
        refine lv_aload_n hx hb dX10_agreed_21 rfl (lv_at hl 0 rfl) ?_
        refine va_get (D := (dC, dI)) (ci := 8) (v := .int v_common) (C := RX10) (T := TX10) (N := 31) hx hb hts iX10 hown hK hP 0 rfl rfl 8 (by decide) f108 (fun _ h9 => h9) rfl dX10_agreed_22 ?_
        refine lv_iand hx hb dX10_agreed_25 ?_
        obtain ⟨k36, ek36, hm⟩ := nm_s hm
        have J36 : ∀ (x5 : Int32) (H : Heap) (locs : List Loc) (ls : Array Slot), k36 x5 = some o → va_P (dC, dI) vwCl [oX10 a_th (.int v_thrown) q_text (.int v_textSize) (.int v_place) q_question (.int v_questionSize) (.int v_facts) (.int v_isSo) (.int v_common) (.int v_readFacts) (.int v_readSo) (.int v_readCommon) (.int v_readDay) q_page (.long v_seed) q_book q_bookSeed (.int v_acts) q_kept q_isKept (.int v_told) q_toldSimple q_toldDay q_toldYes q_yesOf q_noOf q_factOf q_stack q_one q_two q_three] H → va_S A s.heap H locs → lv_has ls 3 [(0, .ref a_th), (2, .int x2)] → W p l e (headSpec wsX10_agreed { frames := 0, cells := 0, slots := 0, locals := 0 }).room s m [.ref a_th].toArray below meth c H locs 0 0 Q (F0 m 36 ls [.int x5, .int x1]) := by
          intro x5 H locs ls hm hP hS hl
          rw [ek36] at hm
          refine lv_ior hx hb dX10_agreed_36 ?_
          refine lv_topi (fun x6 ex6 => ?_)
          replace hm := nm_t ex6 hm
          refine lv_istore_n (lv' := [(1, .int x6), (0, .ref a_th), (2, .int x2)]) hx hb dX10_agreed_37 rfl hl (by decide) rfl (fun ls hl => ?_)
          obtain ⟨x7, ex7⟩ : ∃ y : Int32, y = x2 + (1 : Int32) := ⟨_, rfl⟩
          replace hm := nm_t ex7 hm
          refine lv_iinc (v := x7) (lv' := [(2, .int x7), (1, .int x6), (0, .ref a_th)]) hx hb dX10_agreed_38 hl (k := 2) rfl (by rw [ex7]; rfl) (by decide) rfl (fun ls hl => ?_)
          refine lv_goto (tgt := 4) hx hb dX10_agreed_41 (by decide) ?_
          exact ih4 x6 x7 k4 _ _ _ hm hk4 hP hS (lv_sub hl [2, 1, 0] rfl)
        refine lv_if_ne (tgt := 35) hx hb dX10_agreed_26 (by decide) (fun c8 => ?_) (fun c8 => ?_)
        · replace hm := ite_f c8 hm
          refine lv_iconst (v := (0 : Int32)) hx hb dX10_agreed_35 (by decide) ?_
          exact J36 (0 : Int32) _ _ _ hm hP hS (lv_sub hl [0, 2] rfl)
        · replace hm := ite_t c8 hm
          refine lv_iconst (v := (1 : Int32)) hx hb dX10_agreed_29 (by decide) ?_
          refine lv_iload_n hx hb dX10_agreed_30 rfl (lv_at hl 2 rfl) ?_
          refine lv_ishl hx hb dX10_agreed_31 ?_
          refine lv_goto (tgt := 36) hx hb dX10_agreed_32 (by decide) ?_
          exact J36 ((1 : Int32) <<< (x2 &&& 31)) _ _ _ hm hP hS (lv_sub hl [0, 2] rfl)
  refine lp4 1024 (0 : Int32) (0 : Int32) _ _ _ _ hm (fun x3 H locs ls hm hP hS hl => ?_) hP hS (lv_sub hl [2, 1, 0] rfl)
  refine lv_iload_n hx hb dX10_agreed_44 rfl (lv_at hl 0 rfl) ?_
  obtain rfl := Option.some.inj hm
  subst hQ
  exact W.iret hx hb hr (fun t ht hW => ⟨⟨_, (), rfl, rfl, kb_h hP ht⟩, hS.F ht⟩) hS.2.2 dX10_agreed_45
set_option maxHeartbeats 4000000 in
set_option maxRecDepth 100000 in
theorem c_X10_castle (l : Launch) (dC : Nat → ClassId) (dI : Nat → Nat → Nat) (cI cJ cZ cQ : ClassId) (t sz : Nat) (a_th : Nat) (a_text : Nat) (a_factOf : Nat) (a_yesOf : Nat) (a_noOf : Nat) (a_question : Nat) (a_stack : Nat) (a_page : Nat) (a_isKept : Nat) (q_book : Value) (q_bookSeed : Value) (q_kept : Value) (q_toldSimple : Value) (q_toldDay : Value) (q_toldYes : Value) (q_one : Value) (q_two : Value) (q_three : Value) (v_thrown : Int32) (v_textSize : Int32) (v_place : Int32) (v_questionSize : Int32) (v_facts : Int32) (v_isSo : Int32) (v_common : Int32) (v_readFacts : Int32) (v_readSo : Int32) (v_readCommon : Int32) (v_readDay : Int32) (v_seed : Int64) (v_acts : Int32) (v_told : Int32) (v_text : (Nat → Int32)) (v_factOf : (Nat → Int32)) (v_yesOf : (Nat → Int32)) (v_noOf : (Nat → Int32)) (v_question : (Nat → Int32)) (v_stack : (Nat → Int32)) (v_page : (Nat → Int32)) (v_isKept : (Nat → Int32)) (o : Int32 × Int32 × Int32 × Int32 × Int32 × Int32 × Int32 × Int32 × Int32 × Int32 × Int32 × (Nat → Int32) × (Nat → Int32) × (Nat → Int32) × (Nat → Int32) × (Nat → Int32) × (Nat → Int32)) (hm : m_X10_castle v_thrown v_textSize v_place v_questionSize v_facts v_isSo v_common v_readFacts v_readSo v_readCommon v_readDay v_acts v_text v_factOf v_yesOf v_noOf v_question v_stack v_page v_isKept = some o) : Met l yX10_castle wsX10_castle { frames := 5, cells := 0, slots := 0, locals := 127 } (va_Pc [.ref a_th] (cP (dC, dI) (kT cI cJ cZ cQ) t sz [oX10 a_th (.int v_thrown) (.ref a_text) (.int v_textSize) (.int v_place) (.ref a_question) (.int v_questionSize) (.int v_facts) (.int v_isSo) (.int v_common) (.int v_readFacts) (.int v_readSo) (.int v_readCommon) (.int v_readDay) (.ref a_page) (.long v_seed) q_book q_bookSeed (.int v_acts) q_kept (.ref a_isKept) (.int v_told) q_toldSimple q_toldDay q_toldYes (.ref a_yesOf) (.ref a_noOf) (.ref a_factOf) (.ref a_stack) q_one q_two q_three, aI cI a_text 24 v_text, aI cI a_factOf 5 v_factOf, aI cI a_yesOf 931 v_yesOf, aI cI a_noOf 931 v_noOf, aI cI a_question 16 v_question, aI cZ a_stack 17 v_stack, aI cI a_page 12 v_page, aI cZ a_isKept 2 v_isKept])) (cQi (dC, dI) (va_A [oX10 a_th (.int v_thrown) (.ref a_text) (.int v_textSize) (.int v_place) (.ref a_question) (.int v_questionSize) (.int v_facts) (.int v_isSo) (.int v_common) (.int v_readFacts) (.int v_readSo) (.int v_readCommon) (.int v_readDay) (.ref a_page) (.long v_seed) q_book q_bookSeed (.int v_acts) q_kept (.ref a_isKept) (.int v_told) q_toldSimple q_toldDay q_toldYes (.ref a_yesOf) (.ref a_noOf) (.ref a_factOf) (.ref a_stack) q_one q_two q_three, aI cI a_text 24 v_text, aI cI a_factOf 5 v_factOf, aI cI a_yesOf 931 v_yesOf, aI cI a_noOf 931 v_noOf, aI cI a_question 16 v_question, aI cZ a_stack 17 v_stack, aI cI a_page 12 v_page, aI cZ a_isKept 2 v_isKept] sz) o.1 [oX10 a_th (.int (o.2.1)) (.ref a_text) (.int v_textSize) (.int (o.2.2.1)) (.ref a_question) (.int v_questionSize) (.int (o.2.2.2.1)) (.int (o.2.2.2.2.1)) (.int (o.2.2.2.2.2.1)) (.int (o.2.2.2.2.2.2.1)) (.int (o.2.2.2.2.2.2.2.1)) (.int (o.2.2.2.2.2.2.2.2.1)) (.int (o.2.2.2.2.2.2.2.2.2.1)) (.ref a_page) (.long v_seed) q_book q_bookSeed (.int (o.2.2.2.2.2.2.2.2.2.2.1)) q_kept (.ref a_isKept) (.int v_told) q_toldSimple q_toldDay q_toldYes (.ref a_yesOf) (.ref a_noOf) (.ref a_factOf) (.ref a_stack) q_one q_two q_three, aI cI a_text 24 v_text, aI cI a_factOf 5 (o.2.2.2.2.2.2.2.2.2.2.2.1), aI cI a_yesOf 931 (o.2.2.2.2.2.2.2.2.2.2.2.2.1), aI cI a_noOf 931 (o.2.2.2.2.2.2.2.2.2.2.2.2.2.1), aI cI a_question 16 v_question, aI cZ a_stack 17 (o.2.2.2.2.2.2.2.2.2.2.2.2.2.2.1), aI cI a_page 12 (o.2.2.2.2.2.2.2.2.2.2.2.2.2.2.2.1), aI cZ a_isKept 2 (o.2.2.2.2.2.2.2.2.2.2.2.2.2.2.2.2)]) 0 0 (va_A [oX10 a_th (.int v_thrown) (.ref a_text) (.int v_textSize) (.int v_place) (.ref a_question) (.int v_questionSize) (.int v_facts) (.int v_isSo) (.int v_common) (.int v_readFacts) (.int v_readSo) (.int v_readCommon) (.int v_readDay) (.ref a_page) (.long v_seed) q_book q_bookSeed (.int v_acts) q_kept (.ref a_isKept) (.int v_told) q_toldSimple q_toldDay q_toldYes (.ref a_yesOf) (.ref a_noOf) (.ref a_factOf) (.ref a_stack) q_one q_two q_three, aI cI a_text 24 v_text, aI cI a_factOf 5 v_factOf, aI cI a_yesOf 931 v_yesOf, aI cI a_noOf 931 v_noOf, aI cI a_question 16 v_question, aI cZ a_stack 17 v_stack, aI cI a_page 12 v_page, aI cZ a_isKept 2 v_isKept] sz) := by
  refine Met.ofW (cc := cX10_castle) (maxL := 2) (ret := (some .int)) (by decide) rfl ?_
  intro p e s m args below meth c s₁ B hml hv
  obtain ⟨rfl, hsz, hP, hK, hD0, hG⟩ := hv
  have hx := B.exec
  have hb := B.bytes
  have hr := B.returns
  have hts := atoms_spec (ws := wsX10_castle) B.pre
  have hown : s.vm.findClass RX10 = some m.cls := findClass_of_methodNamed B.named
  have hlocks := B.notSynchronized
  subst hsz
  have hD := hD0.self (sz := s.heap.size)
  generalize hAe : va_A [oX10 a_th (.int v_thrown) (.ref a_text) (.int v_textSize) (.int v_place) (.ref a_question) (.int v_questionSize) (.int v_facts) (.int v_isSo) (.int v_common) (.int v_readFacts) (.int v_readSo) (.int v_readCommon) (.int v_readDay) (.ref a_page) (.long v_seed) q_book q_bookSeed (.int v_acts) q_kept (.ref a_isKept) (.int v_told) q_toldSimple q_toldDay q_toldYes (.ref a_yesOf) (.ref a_noOf) (.ref a_factOf) (.ref a_stack) q_one q_two q_three, aI cI a_text 24 v_text, aI cI a_factOf 5 v_factOf, aI cI a_yesOf 931 v_yesOf, aI cI a_noOf 931 v_noOf, aI cI a_question 16 v_question, aI cZ a_stack 17 v_stack, aI cI a_page 12 v_page, aI cZ a_isKept 2 v_isKept] s.heap.size = A at hD hG ⊢
  have hA : ∀ q : Nat, s.heap.size ≤ q → A q := fun q h => by rw [← hAe]; exact Or.inr h
  have hS : va_S A s.heap s.heap [] := va_S.rf
  have hl := lv_entry ([.ref a_th]) (n := 2) (Nat.le_of_ble_eq_true rfl)
  rw [lg_entry_eq]
  generalize (lg_sl ([.ref a_th]) ++ List.replicate (2 - (lg_sl ([.ref a_th])).length) Slot.unset).toArray = ls at hl ⊢
  have hl : lv_has ls 2 [(0, .ref a_th)] := hl
  have iX10 : ∀ w ∈ wsX100, w ∈ wsX10_castle := fun _ h => List.mem_cons_of_mem _ (List.mem_append_right _ h)
  have f66 := hts (.fieldLink RX10 66 "TrueOnceWeekModel" "thrown" "I") (by decide +kernel)
  have f82 := hts (.fieldLink RX10 82 "TrueOnceWeekModel" "readFacts" "I") (by decide +kernel)
  have f102 := hts (.fieldLink RX10 102 "TrueOnceWeekModel" "facts" "I") (by decide +kernel)
  have f85 := hts (.fieldLink RX10 85 "TrueOnceWeekModel" "readSo" "I") (by decide +kernel)
  have f105 := hts (.fieldLink RX10 105 "TrueOnceWeekModel" "isSo" "I") (by decide +kernel)
  have f88 := hts (.fieldLink RX10 88 "TrueOnceWeekModel" "readCommon" "I") (by decide +kernel)
  have f108 := hts (.fieldLink RX10 108 "TrueOnceWeekModel" "common" "I") (by decide +kernel)
  have f16 := hts (.fieldLink RX10 16 "TrueOnceWeekModel" "page" "[I") (by decide +kernel)
  have f95 := hts (.fieldLink RX10 95 "TrueOnceWeekModel" "readDay" "I") (by decide +kernel)
  have f114 := hts (.fieldLink RX10 114 "TrueOnceWeekModel" "acts" "I") (by decide +kernel)
  have f29 := hts (.fieldLink RX10 29 "TrueOnceWeekModel" "isKept" "[Z") (by decide +kernel)
  refine kb_gen (fun Q hQ => ?_)
  unfold m_X10_castle at hm
  refine lv_aload_n hx hb dX10_castle_0 rfl (lv_at hl 0 rfl) ?_
  refine lv_iconst (v := (0 : Int32)) hx hb dX10_castle_1 (by decide) ?_
  refine va_put (D := (dC, dI)) (ci := 8) (v := .int (0 : Int32)) (ty := .int) (C := RX10) (T := TX10) (N := 31) hx hb hts iX10 tyX10 tyX10_ok nmX10 hown hK hP (kb_D hD rfl) hS 0 rfl rfl 0 (by decide) f66 (fun _ h9 => h9) rfl (by decide +kernel) rfl rfl (Nat.le_of_ble_eq_true rfl) dX10_castle_2 (fun H locs hP _ hS => ?_)
  have hP : va_P (dC, dI) vwCl [oX10 a_th (.int (0 : Int32)) (.ref a_text) (.int v_textSize) (.int v_place) (.ref a_question) (.int v_questionSize) (.int v_facts) (.int v_isSo) (.int v_common) (.int v_readFacts) (.int v_readSo) (.int v_readCommon) (.int v_readDay) (.ref a_page) (.long v_seed) q_book q_bookSeed (.int v_acts) q_kept (.ref a_isKept) (.int v_told) q_toldSimple q_toldDay q_toldYes (.ref a_yesOf) (.ref a_noOf) (.ref a_factOf) (.ref a_stack) q_one q_two q_three, aI cI a_text 24 v_text, aI cI a_factOf 5 v_factOf, aI cI a_yesOf 931 v_yesOf, aI cI a_noOf 931 v_noOf, aI cI a_question 16 v_question, aI cZ a_stack 17 v_stack, aI cI a_page 12 v_page, aI cZ a_isKept 2 v_isKept] H := hP
  refine lv_aload_n hx hb dX10_castle_5 rfl (lv_at hl 0 rfl) ?_
  obtain ⟨r1, w2, w3, w4, w5, w6, ho7, hm⟩ := bd6_s hm
  refine kb_calli (Rv := r1) (va_runV (As := []) (rest := []) ⟨hx, hb, hml, hown, hts⟩ (c_X10_readCastle l dC dI cI cJ cZ cQ t H.size a_th a_text (.ref a_question) (.ref a_page) q_book q_bookSeed q_kept (.ref a_isKept) q_toldSimple q_toldDay q_toldYes (.ref a_yesOf) (.ref a_noOf) (.ref a_factOf) (.ref a_stack) q_one q_two q_three (0 : Int32) v_textSize v_place v_questionSize v_facts v_isSo v_common v_readFacts v_readSo v_readCommon v_readDay v_seed v_acts v_told v_text (r1, w2, w3, w4, w5, w6) ho7) (cwV 0 hts gX10_castle_X10_readCastle rfl rfl rfl (by decide +kernel) ⟨(Nat.le_of_ble_eq_true rfl), (Nat.le_of_ble_eq_true rfl)⟩) ⟨(kb_pre hK hG hP (kb_D hD rfl) hS hA [0, 1] rfl (by decide)).1, (va_recv hK hP (ci := 8) (q0 := 0) rfl rfl), (kb_pre hK hG hP (kb_D hD rfl) hS hA [0, 1] rfl (by decide)).2⟩ rfl rfl hl.1 rfl (lv_room (Nat.le_of_ble_eq_true rfl)) dX10_castle_6 ⟨Nat.zero_le _, Nat.zero_le _⟩) hP (kb_D hD rfl) hS hA [0, 1] rfl [(true, 0), (true, 1), (false, 2), (false, 3), (false, 4), (false, 5), (false, 6), (false, 7), (false, 8)] (w2 := [oX10 a_th (.int (0 : Int32)) (.ref a_text) (.int v_textSize) (.int w2) (.ref a_question) (.int v_questionSize) (.int v_facts) (.int v_isSo) (.int v_common) (.int w3) (.int w4) (.int w5) (.int w6) (.ref a_page) (.long v_seed) q_book q_bookSeed (.int v_acts) q_kept (.ref a_isKept) (.int v_told) q_toldSimple q_toldDay q_toldYes (.ref a_yesOf) (.ref a_noOf) (.ref a_factOf) (.ref a_stack) q_one q_two q_three, aI cI a_text 24 v_text, aI cI a_factOf 5 v_factOf, aI cI a_yesOf 931 v_yesOf, aI cI a_noOf 931 v_noOf, aI cI a_question 16 v_question, aI cZ a_stack 17 v_stack, aI cI a_page 12 v_page, aI cZ a_isKept 2 v_isKept]) rfl (by decide) (fun H locs hP hS => ?_)
  refine lv_bipush (v := (-9 : Int32)) hx hb dX10_castle_9 (by decide) ?_
  refine lv_icmp_eq (tgt := 17) hx hb dX10_castle_11 (by decide) (fun c8 => ?_) (fun c8 => ?_)
  · replace hm := ite_t c8 hm
    refine lv_aload_n hx hb dX10_castle_17 rfl (lv_at hl 0 rfl) ?_
    refine lv_aload_n hx hb dX10_castle_18 rfl (lv_at hl 0 rfl) ?_
    refine va_get (D := (dC, dI)) (ci := 8) (v := .int w3) (C := RX10) (T := TX10) (N := 31) hx hb hts iX10 hown hK hP 0 rfl rfl 9 (by decide) f82 (fun _ h9 => h9) rfl dX10_castle_19 ?_
    refine va_put (D := (dC, dI)) (ci := 8) (v := .int w3) (ty := .int) (C := RX10) (T := TX10) (N := 31) hx hb hts iX10 tyX10 tyX10_ok nmX10 hown hK hP (kb_D hD rfl) hS 0 rfl rfl 6 (by decide) f102 (fun _ h9 => h9) rfl (by decide +kernel) rfl rfl (Nat.le_of_ble_eq_true rfl) dX10_castle_22 (fun H locs hP _ hS => ?_)
    have hP : va_P (dC, dI) vwCl [oX10 a_th (.int (0 : Int32)) (.ref a_text) (.int v_textSize) (.int w2) (.ref a_question) (.int v_questionSize) (.int w3) (.int v_isSo) (.int v_common) (.int w3) (.int w4) (.int w5) (.int w6) (.ref a_page) (.long v_seed) q_book q_bookSeed (.int v_acts) q_kept (.ref a_isKept) (.int v_told) q_toldSimple q_toldDay q_toldYes (.ref a_yesOf) (.ref a_noOf) (.ref a_factOf) (.ref a_stack) q_one q_two q_three, aI cI a_text 24 v_text, aI cI a_factOf 5 v_factOf, aI cI a_yesOf 931 v_yesOf, aI cI a_noOf 931 v_noOf, aI cI a_question 16 v_question, aI cZ a_stack 17 v_stack, aI cI a_page 12 v_page, aI cZ a_isKept 2 v_isKept] H := hP
    refine lv_aload_n hx hb dX10_castle_25 rfl (lv_at hl 0 rfl) ?_
    refine lv_aload_n hx hb dX10_castle_26 rfl (lv_at hl 0 rfl) ?_
    refine va_get (D := (dC, dI)) (ci := 8) (v := .int w4) (C := RX10) (T := TX10) (N := 31) hx hb hts iX10 hown hK hP 0 rfl rfl 10 (by decide) f85 (fun _ h9 => h9) rfl dX10_castle_27 ?_
    refine va_put (D := (dC, dI)) (ci := 8) (v := .int w4) (ty := .int) (C := RX10) (T := TX10) (N := 31) hx hb hts iX10 tyX10 tyX10_ok nmX10 hown hK hP (kb_D hD rfl) hS 0 rfl rfl 7 (by decide) f105 (fun _ h9 => h9) rfl (by decide +kernel) rfl rfl (Nat.le_of_ble_eq_true rfl) dX10_castle_30 (fun H locs hP _ hS => ?_)
    have hP : va_P (dC, dI) vwCl [oX10 a_th (.int (0 : Int32)) (.ref a_text) (.int v_textSize) (.int w2) (.ref a_question) (.int v_questionSize) (.int w3) (.int w4) (.int v_common) (.int w3) (.int w4) (.int w5) (.int w6) (.ref a_page) (.long v_seed) q_book q_bookSeed (.int v_acts) q_kept (.ref a_isKept) (.int v_told) q_toldSimple q_toldDay q_toldYes (.ref a_yesOf) (.ref a_noOf) (.ref a_factOf) (.ref a_stack) q_one q_two q_three, aI cI a_text 24 v_text, aI cI a_factOf 5 v_factOf, aI cI a_yesOf 931 v_yesOf, aI cI a_noOf 931 v_noOf, aI cI a_question 16 v_question, aI cZ a_stack 17 v_stack, aI cI a_page 12 v_page, aI cZ a_isKept 2 v_isKept] H := hP
    refine lv_aload_n hx hb dX10_castle_33 rfl (lv_at hl 0 rfl) ?_
    refine lv_aload_n hx hb dX10_castle_34 rfl (lv_at hl 0 rfl) ?_
    refine va_get (D := (dC, dI)) (ci := 8) (v := .int w5) (C := RX10) (T := TX10) (N := 31) hx hb hts iX10 hown hK hP 0 rfl rfl 11 (by decide) f88 (fun _ h9 => h9) rfl dX10_castle_35 ?_
    refine va_put (D := (dC, dI)) (ci := 8) (v := .int w5) (ty := .int) (C := RX10) (T := TX10) (N := 31) hx hb hts iX10 tyX10 tyX10_ok nmX10 hown hK hP (kb_D hD rfl) hS 0 rfl rfl 8 (by decide) f108 (fun _ h9 => h9) rfl (by decide +kernel) rfl rfl (Nat.le_of_ble_eq_true rfl) dX10_castle_38 (fun H locs hP _ hS => ?_)
    have hP : va_P (dC, dI) vwCl [oX10 a_th (.int (0 : Int32)) (.ref a_text) (.int v_textSize) (.int w2) (.ref a_question) (.int v_questionSize) (.int w3) (.int w4) (.int w5) (.int w3) (.int w4) (.int w5) (.int w6) (.ref a_page) (.long v_seed) q_book q_bookSeed (.int v_acts) q_kept (.ref a_isKept) (.int v_told) q_toldSimple q_toldDay q_toldYes (.ref a_yesOf) (.ref a_noOf) (.ref a_factOf) (.ref a_stack) q_one q_two q_three, aI cI a_text 24 v_text, aI cI a_factOf 5 v_factOf, aI cI a_yesOf 931 v_yesOf, aI cI a_noOf 931 v_noOf, aI cI a_question 16 v_question, aI cZ a_stack 17 v_stack, aI cI a_page 12 v_page, aI cZ a_isKept 2 v_isKept] H := hP
    refine lv_aload_n hx hb dX10_castle_41 rfl (lv_at hl 0 rfl) ?_
    obtain ⟨w9, w10, w11, w12, ho13, hm⟩ := bd4_s hm
    refine kb_callv (va_runV (As := []) (rest := []) ⟨hx, hb, hml, hown, hts⟩ (c_X10_layAnswers l dC dI cI cJ cZ cQ t H.size a_th a_factOf a_yesOf a_noOf a_question a_stack (.ref a_text) (.ref a_page) q_book q_bookSeed q_kept (.ref a_isKept) q_toldSimple q_toldDay q_toldYes q_one q_two q_three (0 : Int32) v_textSize w2 v_questionSize w3 w4 w5 w3 w4 w5 w6 v_seed v_acts v_told v_factOf v_yesOf v_noOf v_question v_stack (w9, w10, w11, w12) ho13) (cwV 0 hts gX10_castle_X10_layAnswers rfl rfl rfl (by decide +kernel) ⟨(Nat.le_of_ble_eq_true rfl), (Nat.le_of_ble_eq_true rfl)⟩) ⟨(kb_pre hK hG hP (kb_D hD rfl) hS hA [0, 2, 3, 4, 5, 6] rfl (by decide)).1, (va_recv hK hP (ci := 8) (q0 := 0) rfl rfl), (kb_pre hK hG hP (kb_D hD rfl) hS hA [0, 2, 3, 4, 5, 6] rfl (by decide)).2⟩ rfl rfl hl.1 rfl (lv_room (Nat.le_of_ble_eq_true rfl)) dX10_castle_42 ⟨Nat.zero_le _, Nat.zero_le _⟩) hP (kb_D hD rfl) hS hA [0, 2, 3, 4, 5, 6] rfl [(true, 0), (false, 1), (true, 1), (true, 2), (true, 3), (true, 4), (true, 5), (false, 7), (false, 8)] (w2 := [oX10 a_th (.int (0 : Int32)) (.ref a_text) (.int v_textSize) (.int w2) (.ref a_question) (.int v_questionSize) (.int w3) (.int w4) (.int w5) (.int w3) (.int w4) (.int w5) (.int w6) (.ref a_page) (.long v_seed) q_book q_bookSeed (.int v_acts) q_kept (.ref a_isKept) (.int v_told) q_toldSimple q_toldDay q_toldYes (.ref a_yesOf) (.ref a_noOf) (.ref a_factOf) (.ref a_stack) q_one q_two q_three, aI cI a_text 24 v_text, aI cI a_factOf 5 w9, aI cI a_yesOf 931 w10, aI cI a_noOf 931 w11, aI cI a_question 16 v_question, aI cZ a_stack 17 w12, aI cI a_page 12 v_page, aI cZ a_isKept 2 v_isKept]) rfl (by decide) (fun H locs hP hS => ?_)
    refine lv_iconst (v := (0 : Int32)) hx hb dX10_castle_45 (by decide) ?_
    refine lv_istore_n (lv' := [(1, .int (0 : Int32)), (0, .ref a_th)]) hx hb dX10_castle_46 rfl hl (by decide) rfl (fun ls hl => ?_)
    have lp47 : ∀ (n47 : Nat) (x14 : Int32) (w15 : (Nat → Int32)) (k47 : (Nat → Int32) → Option (Int32 × Int32 × Int32 × Int32 × Int32 × Int32 × Int32 × Int32 × Int32 × Int32 × Int32 × (Nat → Int32) × (Nat → Int32) × (Nat → Int32) × (Nat → Int32) × (Nat → Int32) × (Nat → Int32))) (H : Heap) (locs : List Loc) (ls : Array Slot), L_X10_castle_47 w3 w4 w5 n47 x14 w15 k47 = some o → (∀ (w16 : (Nat → Int32)) (H : Heap) (locs : List Loc) (ls : Array Slot), k47 w16 = some o → va_P (dC, dI) vwCl [oX10 a_th (.int (0 : Int32)) (.ref a_text) (.int v_textSize) (.int w2) (.ref a_question) (.int v_questionSize) (.int w3) (.int w4) (.int w5) (.int w3) (.int w4) (.int w5) (.int w6) (.ref a_page) (.long v_seed) q_book q_bookSeed (.int v_acts) q_kept (.ref a_isKept) (.int v_told) q_toldSimple q_toldDay q_toldYes (.ref a_yesOf) (.ref a_noOf) (.ref a_factOf) (.ref a_stack) q_one q_two q_three, aI cI a_text 24 v_text, aI cI a_factOf 5 w9, aI cI a_yesOf 931 w10, aI cI a_noOf 931 w11, aI cI a_question 16 v_question, aI cZ a_stack 17 w12, aI cI a_page 12 w16, aI cZ a_isKept 2 v_isKept] H → va_S A s.heap H locs → lv_has ls 2 [(0, .ref a_th)] → W p l e (headSpec wsX10_castle { frames := 5, cells := 0, slots := 0, locals := 127 }).room s m [.ref a_th].toArray below meth c H locs 0 0 Q (F0 m 69 ls [])) → va_P (dC, dI) vwCl [oX10 a_th (.int (0 : Int32)) (.ref a_text) (.int v_textSize) (.int w2) (.ref a_question) (.int v_questionSize) (.int w3) (.int w4) (.int w5) (.int w3) (.int w4) (.int w5) (.int w6) (.ref a_page) (.long v_seed) q_book q_bookSeed (.int v_acts) q_kept (.ref a_isKept) (.int v_told) q_toldSimple q_toldDay q_toldYes (.ref a_yesOf) (.ref a_noOf) (.ref a_factOf) (.ref a_stack) q_one q_two q_three, aI cI a_text 24 v_text, aI cI a_factOf 5 w9, aI cI a_yesOf 931 w10, aI cI a_noOf 931 w11, aI cI a_question 16 v_question, aI cZ a_stack 17 w12, aI cI a_page 12 w15, aI cZ a_isKept 2 v_isKept] H → va_S A s.heap H locs → lv_has ls 2 [(0, .ref a_th), (1, .int x14)] → W p l e (headSpec wsX10_castle { frames := 5, cells := 0, slots := 0, locals := 127 }).room s m [.ref a_th].toArray below meth c H locs 0 0 Q (F0 m 47 ls []) := by
      intro n47
      induction n47 with
      | zero =>
        intro x14 w15 k47 H locs ls hm
        cases (show (none : Option (Int32 × Int32 × Int32 × Int32 × Int32 × Int32 × Int32 × Int32 × Int32 × Int32 × Int32 × (Nat → Int32) × (Nat → Int32) × (Nat → Int32) × (Nat → Int32) × (Nat → Int32) × (Nat → Int32))) = some o from hm)
      | succ n47 ih47 =>
        intro x14 w15 k47 H locs ls hm hk47 hP hS hl
        rw [L_X10_castle_47.eq_2] at hm
        refine lv_iload_n hx hb dX10_castle_47 rfl (lv_at hl 1 rfl) ?_
        refine lv_bipush (v := (7 : Int32)) hx hb dX10_castle_48 (by decide) ?_
        refine lv_icmp_ge (tgt := 69) hx hb dX10_castle_50 (by decide) (fun c17 => ?_) (fun c17 => ?_)
        · replace hm := ite_t c17 hm
          exact hk47 w15 _ _ _ hm hP hS (lv_sub hl [0] rfl)
        · replace hm := ite_f c17 hm
          refine lv_aload_n hx hb dX10_castle_53 rfl (lv_at hl 0 rfl) ?_
          refine va_get (D := (dC, dI)) (ci := 8) (v := .ref a_page) (C := RX10) (T := TX10) (N := 31) hx hb hts iX10 hown hK hP 0 rfl rfl 13 (by decide) f16 (fun _ h9 => h9) rfl dX10_castle_54 ?_
          refine lv_iload_n hx hb dX10_castle_57 rfl (lv_at hl 1 rfl) ?_
          refine lv_aload_n hx hb dX10_castle_58 rfl (lv_at hl 0 rfl) ?_
          obtain ⟨r18, ho19, hm⟩ := bd1_s hm
          refine kb_calli (Rv := r18) (va_runV (As := []) (rest := [.int x14, .ref a_page]) ⟨hx, hb, hml, hown, hts⟩ (c_X10_agreed l dC dI cI cJ cZ cQ t H.size a_th (.ref a_text) (.ref a_question) (.ref a_page) q_book q_bookSeed q_kept (.ref a_isKept) q_toldSimple q_toldDay q_toldYes (.ref a_yesOf) (.ref a_noOf) (.ref a_factOf) (.ref a_stack) q_one q_two q_three (0 : Int32) v_textSize w2 v_questionSize w3 w4 w5 w3 w4 w5 w6 v_seed v_acts v_told (r18) ho19) (cwV 0 hts gX10_castle_X10_agreed rfl rfl rfl (by decide +kernel) ⟨(Nat.le_of_ble_eq_true rfl), (Nat.le_of_ble_eq_true rfl)⟩) ⟨(kb_pre hK hG hP (kb_D hD rfl) hS hA [0] rfl (by decide)).1, (va_recv hK hP (ci := 8) (q0 := 0) rfl rfl), (kb_pre hK hG hP (kb_D hD rfl) hS hA [0] rfl (by decide)).2⟩ rfl rfl hl.1 rfl (lv_room (Nat.le_of_ble_eq_true rfl)) dX10_castle_59 ⟨Nat.zero_le _, Nat.zero_le _⟩) hP (kb_D hD rfl) hS hA [0] rfl [(true, 0), (false, 1), (false, 2), (false, 3), (false, 4), (false, 5), (false, 6), (false, 7), (false, 8)] (w2 := [oX10 a_th (.int (0 : Int32)) (.ref a_text) (.int v_textSize) (.int w2) (.ref a_question) (.int v_questionSize) (.int w3) (.int w4) (.int w5) (.int w3) (.int w4) (.int w5) (.int w6) (.ref a_page) (.long v_seed) q_book q_bookSeed (.int v_acts) q_kept (.ref a_isKept) (.int v_told) q_toldSimple q_toldDay q_toldYes (.ref a_yesOf) (.ref a_noOf) (.ref a_factOf) (.ref a_stack) q_one q_two q_three, aI cI a_text 24 v_text, aI cI a_factOf 5 w9, aI cI a_yesOf 931 w10, aI cI a_noOf 931 w11, aI cI a_question 16 v_question, aI cZ a_stack 17 w12, aI cI a_page 12 w15, aI cZ a_isKept 2 v_isKept]) rfl (by decide) (fun H locs hP hS => ?_)
          obtain ⟨h20, hm⟩ := gd_s hm
          refine va_iast hx hb hK hP (kb_D hD rfl) hS 7 0 rfl rfl (inB_s h20) dX10_castle_62 (fun H locs hP _ hS => ?_)
          have hP : va_P (dC, dI) vwCl [oX10 a_th (.int (0 : Int32)) (.ref a_text) (.int v_textSize) (.int w2) (.ref a_question) (.int v_questionSize) (.int w3) (.int w4) (.int w5) (.int w3) (.int w4) (.int w5) (.int w6) (.ref a_page) (.long v_seed) q_book q_bookSeed (.int v_acts) q_kept (.ref a_isKept) (.int v_told) q_toldSimple q_toldDay q_toldYes (.ref a_yesOf) (.ref a_noOf) (.ref a_factOf) (.ref a_stack) q_one q_two q_three, aI cI a_text 24 v_text, aI cI a_factOf 5 w9, aI cI a_yesOf 931 w10, aI cI a_noOf 931 w11, aI cI a_question 16 v_question, aI cZ a_stack 17 w12, aI cI a_page 12 (upd w15 (Int32.toNatClampNeg x14) r18), aI cZ a_isKept 2 v_isKept] H := hP
          obtain ⟨x21, ex21⟩ : ∃ y : Int32, y = x14 + (1 : Int32) := ⟨_, rfl⟩
          replace hm := nm_t ex21 hm
          refine lv_iinc (v := x21) (lv' := [(1, .int x21), (0, .ref a_th)]) hx hb dX10_castle_63 hl (k := 1) rfl (by rw [ex21]; rfl) (by decide) rfl (fun ls hl => ?_)
          refine lv_goto (tgt := 47) hx hb dX10_castle_66 (by decide) ?_
          exact ih47 x21 (upd w15 (Int32.toNatClampNeg x14) r18) k47 _ _ _ hm hk47 hP hS (lv_sub hl [1, 0] rfl)
    refine lp47 1024 (0 : Int32) v_page _ _ _ _ hm (fun w16 H locs ls hm hP hS hl => ?_) hP hS (lv_sub hl [1, 0] rfl)
    refine lv_aload_n hx hb dX10_castle_69 rfl (lv_at hl 0 rfl) ?_
    refine va_get (D := (dC, dI)) (ci := 8) (v := .ref a_page) (C := RX10) (T := TX10) (N := 31) hx hb hts iX10 hown hK hP 0 rfl rfl 13 (by decide) f16 (fun _ h9 => h9) rfl dX10_castle_70 ?_
    refine lv_bipush (v := (7 : Int32)) hx hb dX10_castle_73 (by decide) ?_
    refine lv_iconst (v := (0 : Int32)) hx hb dX10_castle_75 (by decide) ?_
    refine va_iast hx hb hK hP (kb_D hD rfl) hS 7 0 rfl rfl (inB_s (by decide)) dX10_castle_76 (fun H locs hP _ hS => ?_)
    have hP : va_P (dC, dI) vwCl [oX10 a_th (.int (0 : Int32)) (.ref a_text) (.int v_textSize) (.int w2) (.ref a_question) (.int v_questionSize) (.int w3) (.int w4) (.int w5) (.int w3) (.int w4) (.int w5) (.int w6) (.ref a_page) (.long v_seed) q_book q_bookSeed (.int v_acts) q_kept (.ref a_isKept) (.int v_told) q_toldSimple q_toldDay q_toldYes (.ref a_yesOf) (.ref a_noOf) (.ref a_factOf) (.ref a_stack) q_one q_two q_three, aI cI a_text 24 v_text, aI cI a_factOf 5 w9, aI cI a_yesOf 931 w10, aI cI a_noOf 931 w11, aI cI a_question 16 v_question, aI cZ a_stack 17 w12, aI cI a_page 12 (upd w16 (Int32.toNatClampNeg (7 : Int32)) (0 : Int32)), aI cZ a_isKept 2 v_isKept] H := hP
    refine lv_aload_n hx hb dX10_castle_77 rfl (lv_at hl 0 rfl) ?_
    refine va_get (D := (dC, dI)) (ci := 8) (v := .ref a_page) (C := RX10) (T := TX10) (N := 31) hx hb hts iX10 hown hK hP 0 rfl rfl 13 (by decide) f16 (fun _ h9 => h9) rfl dX10_castle_78 ?_
    refine lv_bipush (v := (8 : Int32)) hx hb dX10_castle_81 (by decide) ?_
    refine lv_aload_n hx hb dX10_castle_83 rfl (lv_at hl 0 rfl) ?_
    refine va_get (D := (dC, dI)) (ci := 8) (v := .int w6) (C := RX10) (T := TX10) (N := 31) hx hb hts iX10 hown hK hP 0 rfl rfl 12 (by decide) f95 (fun _ h9 => h9) rfl dX10_castle_84 ?_
    refine va_iast hx hb hK hP (kb_D hD rfl) hS 7 0 rfl rfl (inB_s (by decide)) dX10_castle_87 (fun H locs hP _ hS => ?_)
    have hP : va_P (dC, dI) vwCl [oX10 a_th (.int (0 : Int32)) (.ref a_text) (.int v_textSize) (.int w2) (.ref a_question) (.int v_questionSize) (.int w3) (.int w4) (.int w5) (.int w3) (.int w4) (.int w5) (.int w6) (.ref a_page) (.long v_seed) q_book q_bookSeed (.int v_acts) q_kept (.ref a_isKept) (.int v_told) q_toldSimple q_toldDay q_toldYes (.ref a_yesOf) (.ref a_noOf) (.ref a_factOf) (.ref a_stack) q_one q_two q_three, aI cI a_text 24 v_text, aI cI a_factOf 5 w9, aI cI a_yesOf 931 w10, aI cI a_noOf 931 w11, aI cI a_question 16 v_question, aI cZ a_stack 17 w12, aI cI a_page 12 (upd (upd w16 (Int32.toNatClampNeg (7 : Int32)) (0 : Int32)) (Int32.toNatClampNeg (8 : Int32)) w6), aI cZ a_isKept 2 v_isKept] H := hP
    refine lv_aload_n hx hb dX10_castle_88 rfl (lv_at hl 0 rfl) ?_
    refine va_get (D := (dC, dI)) (ci := 8) (v := .ref a_page) (C := RX10) (T := TX10) (N := 31) hx hb hts iX10 hown hK hP 0 rfl rfl 13 (by decide) f16 (fun _ h9 => h9) rfl dX10_castle_89 ?_
    refine lv_bipush (v := (9 : Int32)) hx hb dX10_castle_92 (by decide) ?_
    refine lv_iconst (v := (0 : Int32)) hx hb dX10_castle_94 (by decide) ?_
    refine va_iast hx hb hK hP (kb_D hD rfl) hS 7 0 rfl rfl (inB_s (by decide)) dX10_castle_95 (fun H locs hP _ hS => ?_)
    have hP : va_P (dC, dI) vwCl [oX10 a_th (.int (0 : Int32)) (.ref a_text) (.int v_textSize) (.int w2) (.ref a_question) (.int v_questionSize) (.int w3) (.int w4) (.int w5) (.int w3) (.int w4) (.int w5) (.int w6) (.ref a_page) (.long v_seed) q_book q_bookSeed (.int v_acts) q_kept (.ref a_isKept) (.int v_told) q_toldSimple q_toldDay q_toldYes (.ref a_yesOf) (.ref a_noOf) (.ref a_factOf) (.ref a_stack) q_one q_two q_three, aI cI a_text 24 v_text, aI cI a_factOf 5 w9, aI cI a_yesOf 931 w10, aI cI a_noOf 931 w11, aI cI a_question 16 v_question, aI cZ a_stack 17 w12, aI cI a_page 12 (upd (upd (upd w16 (Int32.toNatClampNeg (7 : Int32)) (0 : Int32)) (Int32.toNatClampNeg (8 : Int32)) w6) (Int32.toNatClampNeg (9 : Int32)) (0 : Int32)), aI cZ a_isKept 2 v_isKept] H := hP
    refine lv_aload_n hx hb dX10_castle_96 rfl (lv_at hl 0 rfl) ?_
    refine va_get (D := (dC, dI)) (ci := 8) (v := .ref a_page) (C := RX10) (T := TX10) (N := 31) hx hb hts iX10 hown hK hP 0 rfl rfl 13 (by decide) f16 (fun _ h9 => h9) rfl dX10_castle_97 ?_
    refine lv_bipush (v := (10 : Int32)) hx hb dX10_castle_100 (by decide) ?_
    refine lv_iconst (v := (0 : Int32)) hx hb dX10_castle_102 (by decide) ?_
    refine va_iast hx hb hK hP (kb_D hD rfl) hS 7 0 rfl rfl (inB_s (by decide)) dX10_castle_103 (fun H locs hP _ hS => ?_)
    have hP : va_P (dC, dI) vwCl [oX10 a_th (.int (0 : Int32)) (.ref a_text) (.int v_textSize) (.int w2) (.ref a_question) (.int v_questionSize) (.int w3) (.int w4) (.int w5) (.int w3) (.int w4) (.int w5) (.int w6) (.ref a_page) (.long v_seed) q_book q_bookSeed (.int v_acts) q_kept (.ref a_isKept) (.int v_told) q_toldSimple q_toldDay q_toldYes (.ref a_yesOf) (.ref a_noOf) (.ref a_factOf) (.ref a_stack) q_one q_two q_three, aI cI a_text 24 v_text, aI cI a_factOf 5 w9, aI cI a_yesOf 931 w10, aI cI a_noOf 931 w11, aI cI a_question 16 v_question, aI cZ a_stack 17 w12, aI cI a_page 12 (upd (upd (upd (upd w16 (Int32.toNatClampNeg (7 : Int32)) (0 : Int32)) (Int32.toNatClampNeg (8 : Int32)) w6) (Int32.toNatClampNeg (9 : Int32)) (0 : Int32)) (Int32.toNatClampNeg (10 : Int32)) (0 : Int32)), aI cZ a_isKept 2 v_isKept] H := hP
    refine lv_aload_n hx hb dX10_castle_104 rfl (lv_at hl 0 rfl) ?_
    refine va_get (D := (dC, dI)) (ci := 8) (v := .ref a_page) (C := RX10) (T := TX10) (N := 31) hx hb hts iX10 hown hK hP 0 rfl rfl 13 (by decide) f16 (fun _ h9 => h9) rfl dX10_castle_105 ?_
    refine lv_bipush (v := (11 : Int32)) hx hb dX10_castle_108 (by decide) ?_
    refine lv_iconst (v := (0 : Int32)) hx hb dX10_castle_110 (by decide) ?_
    refine va_iast hx hb hK hP (kb_D hD rfl) hS 7 0 rfl rfl (inB_s (by decide)) dX10_castle_111 (fun H locs hP _ hS => ?_)
    have hP : va_P (dC, dI) vwCl [oX10 a_th (.int (0 : Int32)) (.ref a_text) (.int v_textSize) (.int w2) (.ref a_question) (.int v_questionSize) (.int w3) (.int w4) (.int w5) (.int w3) (.int w4) (.int w5) (.int w6) (.ref a_page) (.long v_seed) q_book q_bookSeed (.int v_acts) q_kept (.ref a_isKept) (.int v_told) q_toldSimple q_toldDay q_toldYes (.ref a_yesOf) (.ref a_noOf) (.ref a_factOf) (.ref a_stack) q_one q_two q_three, aI cI a_text 24 v_text, aI cI a_factOf 5 w9, aI cI a_yesOf 931 w10, aI cI a_noOf 931 w11, aI cI a_question 16 v_question, aI cZ a_stack 17 w12, aI cI a_page 12 (upd (upd (upd (upd (upd w16 (Int32.toNatClampNeg (7 : Int32)) (0 : Int32)) (Int32.toNatClampNeg (8 : Int32)) w6) (Int32.toNatClampNeg (9 : Int32)) (0 : Int32)) (Int32.toNatClampNeg (10 : Int32)) (0 : Int32)) (Int32.toNatClampNeg (11 : Int32)) (0 : Int32)), aI cZ a_isKept 2 v_isKept] H := hP
    refine lv_aload_n hx hb dX10_castle_112 rfl (lv_at hl 0 rfl) ?_
    refine lv_iconst (v := (0 : Int32)) hx hb dX10_castle_113 (by decide) ?_
    refine va_put (D := (dC, dI)) (ci := 8) (v := .int (0 : Int32)) (ty := .int) (C := RX10) (T := TX10) (N := 31) hx hb hts iX10 tyX10 tyX10_ok nmX10 hown hK hP (kb_D hD rfl) hS 0 rfl rfl 17 (by decide) f114 (fun _ h9 => h9) rfl (by decide +kernel) rfl rfl (Nat.le_of_ble_eq_true rfl) dX10_castle_114 (fun H locs hP _ hS => ?_)
    have hP : va_P (dC, dI) vwCl [oX10 a_th (.int (0 : Int32)) (.ref a_text) (.int v_textSize) (.int w2) (.ref a_question) (.int v_questionSize) (.int w3) (.int w4) (.int w5) (.int w3) (.int w4) (.int w5) (.int w6) (.ref a_page) (.long v_seed) q_book q_bookSeed (.int (0 : Int32)) q_kept (.ref a_isKept) (.int v_told) q_toldSimple q_toldDay q_toldYes (.ref a_yesOf) (.ref a_noOf) (.ref a_factOf) (.ref a_stack) q_one q_two q_three, aI cI a_text 24 v_text, aI cI a_factOf 5 w9, aI cI a_yesOf 931 w10, aI cI a_noOf 931 w11, aI cI a_question 16 v_question, aI cZ a_stack 17 w12, aI cI a_page 12 (upd (upd (upd (upd (upd w16 (Int32.toNatClampNeg (7 : Int32)) (0 : Int32)) (Int32.toNatClampNeg (8 : Int32)) w6) (Int32.toNatClampNeg (9 : Int32)) (0 : Int32)) (Int32.toNatClampNeg (10 : Int32)) (0 : Int32)) (Int32.toNatClampNeg (11 : Int32)) (0 : Int32)), aI cZ a_isKept 2 v_isKept] H := hP
    refine lv_aload_n hx hb dX10_castle_117 rfl (lv_at hl 0 rfl) ?_
    refine va_get (D := (dC, dI)) (ci := 8) (v := .ref a_isKept) (C := RX10) (T := TX10) (N := 31) hx hb hts iX10 hown hK hP 0 rfl rfl 19 (by decide) f29 (fun _ h9 => h9) rfl dX10_castle_118 ?_
    refine lv_iconst (v := (0 : Int32)) hx hb dX10_castle_121 (by decide) ?_
    refine lv_iconst (v := (0 : Int32)) hx hb dX10_castle_122 (by decide) ?_
    refine va_zast hx hb hK hP (kb_D hD rfl) hS 8 2 rfl rfl (inB_s (by decide)) dX10_castle_123 (fun H locs hP _ hS => ?_)
    have hP : va_P (dC, dI) vwCl [oX10 a_th (.int (0 : Int32)) (.ref a_text) (.int v_textSize) (.int w2) (.ref a_question) (.int v_questionSize) (.int w3) (.int w4) (.int w5) (.int w3) (.int w4) (.int w5) (.int w6) (.ref a_page) (.long v_seed) q_book q_bookSeed (.int (0 : Int32)) q_kept (.ref a_isKept) (.int v_told) q_toldSimple q_toldDay q_toldYes (.ref a_yesOf) (.ref a_noOf) (.ref a_factOf) (.ref a_stack) q_one q_two q_three, aI cI a_text 24 v_text, aI cI a_factOf 5 w9, aI cI a_yesOf 931 w10, aI cI a_noOf 931 w11, aI cI a_question 16 v_question, aI cZ a_stack 17 w12, aI cI a_page 12 (upd (upd (upd (upd (upd w16 (Int32.toNatClampNeg (7 : Int32)) (0 : Int32)) (Int32.toNatClampNeg (8 : Int32)) w6) (Int32.toNatClampNeg (9 : Int32)) (0 : Int32)) (Int32.toNatClampNeg (10 : Int32)) (0 : Int32)) (Int32.toNatClampNeg (11 : Int32)) (0 : Int32)), aI cZ a_isKept 2 (upd v_isKept (Int32.toNatClampNeg (0 : Int32)) (vp_nar .boolean (0 : Int32)))] H := hP
    refine lv_aload_n hx hb dX10_castle_124 rfl (lv_at hl 0 rfl) ?_
    refine va_get (D := (dC, dI)) (ci := 8) (v := .ref a_isKept) (C := RX10) (T := TX10) (N := 31) hx hb hts iX10 hown hK hP 0 rfl rfl 19 (by decide) f29 (fun _ h9 => h9) rfl dX10_castle_125 ?_
    refine lv_iconst (v := (1 : Int32)) hx hb dX10_castle_128 (by decide) ?_
    refine lv_iconst (v := (0 : Int32)) hx hb dX10_castle_129 (by decide) ?_
    refine va_zast hx hb hK hP (kb_D hD rfl) hS 8 2 rfl rfl (inB_s (by decide)) dX10_castle_130 (fun H locs hP _ hS => ?_)
    have hP : va_P (dC, dI) vwCl [oX10 a_th (.int (0 : Int32)) (.ref a_text) (.int v_textSize) (.int w2) (.ref a_question) (.int v_questionSize) (.int w3) (.int w4) (.int w5) (.int w3) (.int w4) (.int w5) (.int w6) (.ref a_page) (.long v_seed) q_book q_bookSeed (.int (0 : Int32)) q_kept (.ref a_isKept) (.int v_told) q_toldSimple q_toldDay q_toldYes (.ref a_yesOf) (.ref a_noOf) (.ref a_factOf) (.ref a_stack) q_one q_two q_three, aI cI a_text 24 v_text, aI cI a_factOf 5 w9, aI cI a_yesOf 931 w10, aI cI a_noOf 931 w11, aI cI a_question 16 v_question, aI cZ a_stack 17 w12, aI cI a_page 12 (upd (upd (upd (upd (upd w16 (Int32.toNatClampNeg (7 : Int32)) (0 : Int32)) (Int32.toNatClampNeg (8 : Int32)) w6) (Int32.toNatClampNeg (9 : Int32)) (0 : Int32)) (Int32.toNatClampNeg (10 : Int32)) (0 : Int32)) (Int32.toNatClampNeg (11 : Int32)) (0 : Int32)), aI cZ a_isKept 2 (upd (upd v_isKept (Int32.toNatClampNeg (0 : Int32)) (vp_nar .boolean (0 : Int32))) (Int32.toNatClampNeg (1 : Int32)) (vp_nar .boolean (0 : Int32)))] H := hP
    refine lv_aload_n hx hb dX10_castle_131 rfl (lv_at hl 0 rfl) ?_
    refine va_get (D := (dC, dI)) (ci := 8) (v := .int w3) (C := RX10) (T := TX10) (N := 31) hx hb hts iX10 hown hK hP 0 rfl rfl 6 (by decide) f102 (fun _ h9 => h9) rfl dX10_castle_132 ?_
    obtain rfl := Option.some.inj hm
    subst hQ
    exact W.iret hx hb hr (fun t ht hW => ⟨⟨_, (), rfl, rfl, kb_h hP ht⟩, hS.F ht⟩) hS.2.2 dX10_castle_135
  · replace hm := ite_f c8 hm
    refine lv_bipush (v := (-3 : Int32)) hx hb dX10_castle_14 (by decide) ?_
    obtain rfl := Option.some.inj hm
    subst hQ
    exact W.iret hx hb hr (fun t ht hW => ⟨⟨_, (), rfl, rfl, kb_h hP ht⟩, hS.F ht⟩) hS.2.2 dX10_castle_16
set_option maxHeartbeats 4000000 in
set_option maxRecDepth 100000 in
theorem c_X10_quill (l : Launch) (dC : Nat → ClassId) (dI : Nat → Nat → Nat) (cI cJ cZ cQ : ClassId) (t sz : Nat) (a_th : Nat) (a_question : Nat) (q_text : Value) (q_page : Value) (q_book : Value) (q_bookSeed : Value) (q_kept : Value) (q_isKept : Value) (q_toldSimple : Value) (q_toldDay : Value) (q_toldYes : Value) (q_yesOf : Value) (q_noOf : Value) (q_factOf : Value) (q_stack : Value) (q_one : Value) (q_two : Value) (q_three : Value) (v_thrown : Int32) (v_textSize : Int32) (v_place : Int32) (v_questionSize : Int32) (v_facts : Int32) (v_isSo : Int32) (v_common : Int32) (v_readFacts : Int32) (v_readSo : Int32) (v_readCommon : Int32) (v_readDay : Int32) (v_seed : Int64) (v_acts : Int32) (v_told : Int32) (v_question : (Nat → Int32)) (p_1 : Int32) (o : Int32 × Int32 × Int32 × (Nat → Int32)) (hm : m_X10_quill p_1 v_thrown v_questionSize v_question = some o) : Met l yX10_quill wsX10_quill { frames := 1, cells := 0, slots := 0, locals := 25 } (va_Pc [.ref a_th, .int p_1] (cP (dC, dI) (kT cI cJ cZ cQ) t sz [oX10 a_th (.int v_thrown) q_text (.int v_textSize) (.int v_place) (.ref a_question) (.int v_questionSize) (.int v_facts) (.int v_isSo) (.int v_common) (.int v_readFacts) (.int v_readSo) (.int v_readCommon) (.int v_readDay) q_page (.long v_seed) q_book q_bookSeed (.int v_acts) q_kept q_isKept (.int v_told) q_toldSimple q_toldDay q_toldYes q_yesOf q_noOf q_factOf q_stack q_one q_two q_three, aI cI a_question 16 v_question])) (cQi (dC, dI) (va_A [oX10 a_th (.int v_thrown) q_text (.int v_textSize) (.int v_place) (.ref a_question) (.int v_questionSize) (.int v_facts) (.int v_isSo) (.int v_common) (.int v_readFacts) (.int v_readSo) (.int v_readCommon) (.int v_readDay) q_page (.long v_seed) q_book q_bookSeed (.int v_acts) q_kept q_isKept (.int v_told) q_toldSimple q_toldDay q_toldYes q_yesOf q_noOf q_factOf q_stack q_one q_two q_three, aI cI a_question 16 v_question] sz) o.1 [oX10 a_th (.int (o.2.1)) q_text (.int v_textSize) (.int v_place) (.ref a_question) (.int (o.2.2.1)) (.int v_facts) (.int v_isSo) (.int v_common) (.int v_readFacts) (.int v_readSo) (.int v_readCommon) (.int v_readDay) q_page (.long v_seed) q_book q_bookSeed (.int v_acts) q_kept q_isKept (.int v_told) q_toldSimple q_toldDay q_toldYes q_yesOf q_noOf q_factOf q_stack q_one q_two q_three, aI cI a_question 16 (o.2.2.2)]) 0 0 (va_A [oX10 a_th (.int v_thrown) q_text (.int v_textSize) (.int v_place) (.ref a_question) (.int v_questionSize) (.int v_facts) (.int v_isSo) (.int v_common) (.int v_readFacts) (.int v_readSo) (.int v_readCommon) (.int v_readDay) q_page (.long v_seed) q_book q_bookSeed (.int v_acts) q_kept q_isKept (.int v_told) q_toldSimple q_toldDay q_toldYes q_yesOf q_noOf q_factOf q_stack q_one q_two q_three, aI cI a_question 16 v_question] sz) := by
  refine Met.ofW (cc := cX10_quill) (maxL := 2) (ret := (some .int)) (by decide) rfl ?_
  intro p e s m args below meth c s₁ B hml hv
  obtain ⟨rfl, hsz, hP, hK, hD0, hG⟩ := hv
  have hx := B.exec
  have hb := B.bytes
  have hr := B.returns
  have hts := atoms_spec (ws := wsX10_quill) B.pre
  have hown : s.vm.findClass RX10 = some m.cls := findClass_of_methodNamed B.named
  have hlocks := B.notSynchronized
  subst hsz
  have hD := hD0.self (sz := s.heap.size)
  generalize hAe : va_A [oX10 a_th (.int v_thrown) q_text (.int v_textSize) (.int v_place) (.ref a_question) (.int v_questionSize) (.int v_facts) (.int v_isSo) (.int v_common) (.int v_readFacts) (.int v_readSo) (.int v_readCommon) (.int v_readDay) q_page (.long v_seed) q_book q_bookSeed (.int v_acts) q_kept q_isKept (.int v_told) q_toldSimple q_toldDay q_toldYes q_yesOf q_noOf q_factOf q_stack q_one q_two q_three, aI cI a_question 16 v_question] s.heap.size = A at hD hG ⊢
  have hA : ∀ q : Nat, s.heap.size ≤ q → A q := fun q h => by rw [← hAe]; exact Or.inr h
  have hS : va_S A s.heap s.heap [] := va_S.rf
  have hl := lv_entry ([.ref a_th, .int p_1]) (n := 2) (Nat.le_of_ble_eq_true rfl)
  rw [lg_entry_eq]
  generalize (lg_sl ([.ref a_th, .int p_1]) ++ List.replicate (2 - (lg_sl ([.ref a_th, .int p_1])).length) Slot.unset).toArray = ls at hl ⊢
  have hl : lv_has ls 2 [(0, .ref a_th), (1, .int p_1)] := hl
  have iX10 : ∀ w ∈ wsX100, w ∈ wsX10_quill := fun _ h => List.mem_cons_of_mem _ (List.mem_append_right _ h)
  have f66 := hts (.fieldLink RX10 66 "TrueOnceWeekModel" "thrown" "I") (by decide +kernel)
  have cl70 := hts (.constantLong RX10 70 (255 : Int64)) (by decide +kernel)
  have f117 := hts (.fieldLink RX10 117 "TrueOnceWeekModel" "questionSize" "I") (by decide +kernel)
  have f13 := hts (.fieldLink RX10 13 "TrueOnceWeekModel" "question" "[I") (by decide +kernel)
  refine kb_gen (fun Q hQ => ?_)
  unfold m_X10_quill at hm
  refine lv_aload_n hx hb dX10_quill_0 rfl (lv_at hl 0 rfl) ?_
  refine lv_iconst (v := (0 : Int32)) hx hb dX10_quill_1 (by decide) ?_
  refine va_put (D := (dC, dI)) (ci := 8) (v := .int (0 : Int32)) (ty := .int) (C := RX10) (T := TX10) (N := 31) hx hb hts iX10 tyX10 tyX10_ok nmX10 hown hK hP (kb_D hD rfl) hS 0 rfl rfl 0 (by decide) f66 (fun _ h9 => h9) rfl (by decide +kernel) rfl rfl (Nat.le_of_ble_eq_true rfl) dX10_quill_2 (fun H locs hP _ hS => ?_)
  have hP : va_P (dC, dI) vwCl [oX10 a_th (.int (0 : Int32)) q_text (.int v_textSize) (.int v_place) (.ref a_question) (.int v_questionSize) (.int v_facts) (.int v_isSo) (.int v_common) (.int v_readFacts) (.int v_readSo) (.int v_readCommon) (.int v_readDay) q_page (.long v_seed) q_book q_bookSeed (.int v_acts) q_kept q_isKept (.int v_told) q_toldSimple q_toldDay q_toldYes q_yesOf q_noOf q_factOf q_stack q_one q_two q_three, aI cI a_question 16 v_question] H := hP
  refine lv_iload_n hx hb dX10_quill_5 rfl (lv_at hl 1 rfl) ?_
  refine lv_i2l (v := (Int32.toInt64 p_1)) hx hb dX10_quill_6 rfl ?_
  refine lv_lconst (v := (0 : Int64)) hx hb dX10_quill_7 (by decide) ?_
  refine lv_ldc2 (v := (255 : Int64)) hx hb hown cl70 dX10_quill_8 ?_
  obtain ⟨r1, ho2, hm⟩ := bd1_s hm
  refine kb_calli (Rv := r1) (va_runS (As := [.long (Int32.toInt64 p_1), .long (0 : Int64), .long (255 : Int64)]) (rest := []) ⟨hx, hb, hml, hown, hts⟩ (c_X10_in l dC dI cI cJ cZ cQ t H.size (Int32.toInt64 p_1) (0 : Int64) (255 : Int64) (r1) ho2) (va_cwS 3 hts gX10_quill_X10_in rfl rfl rfl (by decide +kernel) ⟨(Nat.le_of_ble_eq_true rfl), (Nat.le_of_ble_eq_true rfl)⟩) (kb_pre hK hG hP (kb_D hD rfl) hS hA [] rfl (by decide)) rfl rfl hl.1 rfl (lv_room (Nat.le_of_ble_eq_true rfl)) dX10_quill_11 ⟨Nat.zero_le _, Nat.zero_le _⟩) hP (kb_D hD rfl) hS hA [] rfl [(false, 0), (false, 1)] (w2 := [oX10 a_th (.int (0 : Int32)) q_text (.int v_textSize) (.int v_place) (.ref a_question) (.int v_questionSize) (.int v_facts) (.int v_isSo) (.int v_common) (.int v_readFacts) (.int v_readSo) (.int v_readCommon) (.int v_readDay) q_page (.long v_seed) q_book q_bookSeed (.int v_acts) q_kept q_isKept (.int v_told) q_toldSimple q_toldDay q_toldYes q_yesOf q_noOf q_factOf q_stack q_one q_two q_three, aI cI a_question 16 v_question]) rfl (by decide) (fun H locs hP hS => ?_)
  refine lv_if_ne (tgt := 20) hx hb dX10_quill_14 (by decide) (fun c3 => ?_) (fun c3 => ?_)
  · replace hm := ite_f c3 hm
    refine lv_aload_n hx hb dX10_quill_20 rfl (lv_at hl 0 rfl) ?_
    refine va_get (D := (dC, dI)) (ci := 8) (v := .int v_questionSize) (C := RX10) (T := TX10) (N := 31) hx hb hts iX10 hown hK hP 0 rfl rfl 5 (by decide) f117 (fun _ h9 => h9) rfl dX10_quill_21 ?_
    refine lv_bipush (v := (16 : Int32)) hx hb dX10_quill_24 (by decide) ?_
    refine lv_icmp_ne (tgt := 32) hx hb dX10_quill_26 (by decide) (fun c4 => ?_) (fun c4 => ?_)
    · replace hm := ite_f c4 hm
      refine lv_aload_n hx hb dX10_quill_32 rfl (lv_at hl 0 rfl) ?_
      refine va_get (D := (dC, dI)) (ci := 8) (v := .ref a_question) (C := RX10) (T := TX10) (N := 31) hx hb hts iX10 hown hK hP 0 rfl rfl 4 (by decide) f13 (fun _ h9 => h9) rfl dX10_quill_33 ?_
      refine lv_aload_n hx hb dX10_quill_36 rfl (lv_at hl 0 rfl) ?_
      refine va_get (D := (dC, dI)) (ci := 8) (v := .int v_questionSize) (C := RX10) (T := TX10) (N := 31) hx hb hts iX10 hown hK hP 0 rfl rfl 5 (by decide) f117 (fun _ h9 => h9) rfl dX10_quill_37 ?_
      refine lv_iload_n hx hb dX10_quill_40 rfl (lv_at hl 1 rfl) ?_
      obtain ⟨h5, hm⟩ := gd_s hm
      refine va_iast hx hb hK hP (kb_D hD rfl) hS 1 0 rfl rfl (inB_s h5) dX10_quill_41 (fun H locs hP _ hS => ?_)
      have hP : va_P (dC, dI) vwCl [oX10 a_th (.int (0 : Int32)) q_text (.int v_textSize) (.int v_place) (.ref a_question) (.int v_questionSize) (.int v_facts) (.int v_isSo) (.int v_common) (.int v_readFacts) (.int v_readSo) (.int v_readCommon) (.int v_readDay) q_page (.long v_seed) q_book q_bookSeed (.int v_acts) q_kept q_isKept (.int v_told) q_toldSimple q_toldDay q_toldYes q_yesOf q_noOf q_factOf q_stack q_one q_two q_three, aI cI a_question 16 (upd v_question (Int32.toNatClampNeg v_questionSize) p_1)] H := hP
      refine lv_aload_n hx hb dX10_quill_42 rfl (lv_at hl 0 rfl) ?_
      refine lv_dup hx hb dX10_quill_43 rfl ?_
      refine va_get (D := (dC, dI)) (ci := 8) (v := .int v_questionSize) (C := RX10) (T := TX10) (N := 31) hx hb hts iX10 hown hK hP 0 rfl rfl 5 (by decide) f117 (fun _ h9 => h9) rfl dX10_quill_44 ?_
      refine lv_iconst (v := (1 : Int32)) hx hb dX10_quill_47 (by decide) ?_
      refine lv_iadd hx hb dX10_quill_48 ?_
      refine lv_topi (fun x6 ex6 => ?_)
      replace hm := nm_t ex6 hm
      refine va_put (D := (dC, dI)) (ci := 8) (v := .int x6) (ty := .int) (C := RX10) (T := TX10) (N := 31) hx hb hts iX10 tyX10 tyX10_ok nmX10 hown hK hP (kb_D hD rfl) hS 0 rfl rfl 5 (by decide) f117 (fun _ h9 => h9) rfl (by decide +kernel) rfl rfl (Nat.le_of_ble_eq_true rfl) dX10_quill_49 (fun H locs hP _ hS => ?_)
      have hP : va_P (dC, dI) vwCl [oX10 a_th (.int (0 : Int32)) q_text (.int v_textSize) (.int v_place) (.ref a_question) (.int x6) (.int v_facts) (.int v_isSo) (.int v_common) (.int v_readFacts) (.int v_readSo) (.int v_readCommon) (.int v_readDay) q_page (.long v_seed) q_book q_bookSeed (.int v_acts) q_kept q_isKept (.int v_told) q_toldSimple q_toldDay q_toldYes q_yesOf q_noOf q_factOf q_stack q_one q_two q_three, aI cI a_question 16 (upd v_question (Int32.toNatClampNeg v_questionSize) p_1)] H := hP
      refine lv_aload_n hx hb dX10_quill_52 rfl (lv_at hl 0 rfl) ?_
      refine va_get (D := (dC, dI)) (ci := 8) (v := .int x6) (C := RX10) (T := TX10) (N := 31) hx hb hts iX10 hown hK hP 0 rfl rfl 5 (by decide) f117 (fun _ h9 => h9) rfl dX10_quill_53 ?_
      obtain rfl := Option.some.inj hm
      subst hQ
      exact W.iret hx hb hr (fun t ht hW => ⟨⟨_, (), rfl, rfl, kb_h hP ht⟩, hS.F ht⟩) hS.2.2 dX10_quill_56
    · replace hm := ite_t c4 hm
      refine lv_bipush (v := (-4 : Int32)) hx hb dX10_quill_29 (by decide) ?_
      obtain rfl := Option.some.inj hm
      subst hQ
      exact W.iret hx hb hr (fun t ht hW => ⟨⟨_, (), rfl, rfl, kb_h hP ht⟩, hS.F ht⟩) hS.2.2 dX10_quill_31
  · replace hm := ite_t c3 hm
    refine lv_bipush (v := (-2 : Int32)) hx hb dX10_quill_17 (by decide) ?_
    obtain rfl := Option.some.inj hm
    subst hQ
    exact W.iret hx hb hr (fun t ht hW => ⟨⟨_, (), rfl, rfl, kb_h hP ht⟩, hS.F ht⟩) hS.2.2 dX10_quill_19
set_option maxHeartbeats 4000000 in
set_option maxRecDepth 100000 in
theorem c_X10_blot (l : Launch) (dC : Nat → ClassId) (dI : Nat → Nat → Nat) (cI cJ cZ cQ : ClassId) (t sz : Nat) (a_th : Nat) (q_text : Value) (q_question : Value) (q_page : Value) (q_book : Value) (q_bookSeed : Value) (q_kept : Value) (q_isKept : Value) (q_toldSimple : Value) (q_toldDay : Value) (q_toldYes : Value) (q_yesOf : Value) (q_noOf : Value) (q_factOf : Value) (q_stack : Value) (q_one : Value) (q_two : Value) (q_three : Value) (v_thrown : Int32) (v_textSize : Int32) (v_place : Int32) (v_questionSize : Int32) (v_facts : Int32) (v_isSo : Int32) (v_common : Int32) (v_readFacts : Int32) (v_readSo : Int32) (v_readCommon : Int32) (v_readDay : Int32) (v_seed : Int64) (v_acts : Int32) (v_told : Int32) (o : Int32 × Int32 × Int32) (hm : m_X10_blot v_thrown v_questionSize = some o) : Met l yX10_blot wsX10_blot { frames := 0, cells := 0, slots := 0, locals := 0 } (va_Pc [.ref a_th] (cP (dC, dI) (kT cI cJ cZ cQ) t sz [oX10 a_th (.int v_thrown) q_text (.int v_textSize) (.int v_place) q_question (.int v_questionSize) (.int v_facts) (.int v_isSo) (.int v_common) (.int v_readFacts) (.int v_readSo) (.int v_readCommon) (.int v_readDay) q_page (.long v_seed) q_book q_bookSeed (.int v_acts) q_kept q_isKept (.int v_told) q_toldSimple q_toldDay q_toldYes q_yesOf q_noOf q_factOf q_stack q_one q_two q_three])) (cQi (dC, dI) (va_A [oX10 a_th (.int v_thrown) q_text (.int v_textSize) (.int v_place) q_question (.int v_questionSize) (.int v_facts) (.int v_isSo) (.int v_common) (.int v_readFacts) (.int v_readSo) (.int v_readCommon) (.int v_readDay) q_page (.long v_seed) q_book q_bookSeed (.int v_acts) q_kept q_isKept (.int v_told) q_toldSimple q_toldDay q_toldYes q_yesOf q_noOf q_factOf q_stack q_one q_two q_three] sz) o.1 [oX10 a_th (.int (o.2.1)) q_text (.int v_textSize) (.int v_place) q_question (.int (o.2.2)) (.int v_facts) (.int v_isSo) (.int v_common) (.int v_readFacts) (.int v_readSo) (.int v_readCommon) (.int v_readDay) q_page (.long v_seed) q_book q_bookSeed (.int v_acts) q_kept q_isKept (.int v_told) q_toldSimple q_toldDay q_toldYes q_yesOf q_noOf q_factOf q_stack q_one q_two q_three]) 0 0 (va_A [oX10 a_th (.int v_thrown) q_text (.int v_textSize) (.int v_place) q_question (.int v_questionSize) (.int v_facts) (.int v_isSo) (.int v_common) (.int v_readFacts) (.int v_readSo) (.int v_readCommon) (.int v_readDay) q_page (.long v_seed) q_book q_bookSeed (.int v_acts) q_kept q_isKept (.int v_told) q_toldSimple q_toldDay q_toldYes q_yesOf q_noOf q_factOf q_stack q_one q_two q_three] sz) := by
  refine Met.ofW (cc := cX10_blot) (maxL := 2) (ret := (some .int)) (by decide) rfl ?_
  intro p e s m args below meth c s₁ B hml hv
  obtain ⟨rfl, hsz, hP, hK, hD0, hG⟩ := hv
  have hx := B.exec
  have hb := B.bytes
  have hr := B.returns
  have hts := atoms_spec (ws := wsX10_blot) B.pre
  have hown : s.vm.findClass RX10 = some m.cls := findClass_of_methodNamed B.named
  have hlocks := B.notSynchronized
  subst hsz
  have hD := hD0.self (sz := s.heap.size)
  generalize hAe : va_A [oX10 a_th (.int v_thrown) q_text (.int v_textSize) (.int v_place) q_question (.int v_questionSize) (.int v_facts) (.int v_isSo) (.int v_common) (.int v_readFacts) (.int v_readSo) (.int v_readCommon) (.int v_readDay) q_page (.long v_seed) q_book q_bookSeed (.int v_acts) q_kept q_isKept (.int v_told) q_toldSimple q_toldDay q_toldYes q_yesOf q_noOf q_factOf q_stack q_one q_two q_three] s.heap.size = A at hD hG ⊢
  have hA : ∀ q : Nat, s.heap.size ≤ q → A q := fun q h => by rw [← hAe]; exact Or.inr h
  have hS : va_S A s.heap s.heap [] := va_S.rf
  have hl := lv_entry ([.ref a_th]) (n := 2) (Nat.le_of_ble_eq_true rfl)
  rw [lg_entry_eq]
  generalize (lg_sl ([.ref a_th]) ++ List.replicate (2 - (lg_sl ([.ref a_th])).length) Slot.unset).toArray = ls at hl ⊢
  have hl : lv_has ls 2 [(0, .ref a_th)] := hl
  have iX10 : ∀ w ∈ wsX100, w ∈ wsX10_blot := fun _ h => List.mem_cons_of_mem _ (List.mem_append_right _ h)
  have f66 := hts (.fieldLink RX10 66 "TrueOnceWeekModel" "thrown" "I") (by decide +kernel)
  have f117 := hts (.fieldLink RX10 117 "TrueOnceWeekModel" "questionSize" "I") (by decide +kernel)
  refine kb_gen (fun Q hQ => ?_)
  unfold m_X10_blot at hm
  refine lv_aload_n hx hb dX10_blot_0 rfl (lv_at hl 0 rfl) ?_
  refine lv_iconst (v := (0 : Int32)) hx hb dX10_blot_1 (by decide) ?_
  refine va_put (D := (dC, dI)) (ci := 8) (v := .int (0 : Int32)) (ty := .int) (C := RX10) (T := TX10) (N := 31) hx hb hts iX10 tyX10 tyX10_ok nmX10 hown hK hP (kb_D hD rfl) hS 0 rfl rfl 0 (by decide) f66 (fun _ h9 => h9) rfl (by decide +kernel) rfl rfl (Nat.le_of_ble_eq_true rfl) dX10_blot_2 (fun H locs hP _ hS => ?_)
  have hP : va_P (dC, dI) vwCl [oX10 a_th (.int (0 : Int32)) q_text (.int v_textSize) (.int v_place) q_question (.int v_questionSize) (.int v_facts) (.int v_isSo) (.int v_common) (.int v_readFacts) (.int v_readSo) (.int v_readCommon) (.int v_readDay) q_page (.long v_seed) q_book q_bookSeed (.int v_acts) q_kept q_isKept (.int v_told) q_toldSimple q_toldDay q_toldYes q_yesOf q_noOf q_factOf q_stack q_one q_two q_three] H := hP
  refine lv_aload_n hx hb dX10_blot_5 rfl (lv_at hl 0 rfl) ?_
  refine va_get (D := (dC, dI)) (ci := 8) (v := .int v_questionSize) (C := RX10) (T := TX10) (N := 31) hx hb hts iX10 hown hK hP 0 rfl rfl 5 (by decide) f117 (fun _ h9 => h9) rfl dX10_blot_6 ?_
  refine lv_istore_n (lv' := [(1, .int v_questionSize), (0, .ref a_th)]) hx hb dX10_blot_9 rfl hl (by decide) rfl (fun ls hl => ?_)
  refine lv_aload_n hx hb dX10_blot_10 rfl (lv_at hl 1 rfl) ?_
  refine lv_iconst (v := (0 : Int32)) hx hb dX10_blot_11 (by decide) ?_
  refine va_put (D := (dC, dI)) (ci := 8) (v := .int (0 : Int32)) (ty := .int) (C := RX10) (T := TX10) (N := 31) hx hb hts iX10 tyX10 tyX10_ok nmX10 hown hK hP (kb_D hD rfl) hS 0 rfl rfl 5 (by decide) f117 (fun _ h9 => h9) rfl (by decide +kernel) rfl rfl (Nat.le_of_ble_eq_true rfl) dX10_blot_12 (fun H locs hP _ hS => ?_)
  have hP : va_P (dC, dI) vwCl [oX10 a_th (.int (0 : Int32)) q_text (.int v_textSize) (.int v_place) q_question (.int (0 : Int32)) (.int v_facts) (.int v_isSo) (.int v_common) (.int v_readFacts) (.int v_readSo) (.int v_readCommon) (.int v_readDay) q_page (.long v_seed) q_book q_bookSeed (.int v_acts) q_kept q_isKept (.int v_told) q_toldSimple q_toldDay q_toldYes q_yesOf q_noOf q_factOf q_stack q_one q_two q_three] H := hP
  refine lv_iload_n hx hb dX10_blot_15 rfl (lv_at hl 0 rfl) ?_
  obtain rfl := Option.some.inj hm
  subst hQ
  exact W.iret hx hb hr (fun t ht hW => ⟨⟨_, (), rfl, rfl, kb_h hP ht⟩, hS.F ht⟩) hS.2.2 dX10_blot_16
set_option maxHeartbeats 4000000 in
set_option maxRecDepth 100000 in
theorem c_X10_slipOf (l : Launch) (dC : Nat → ClassId) (dI : Nat → Nat → Nat) (cI cJ cZ cQ : ClassId) (t sz : Nat) (a_th : Nat) (a_question : Nat) (q_text : Value) (q_page : Value) (q_book : Value) (q_bookSeed : Value) (q_kept : Value) (q_isKept : Value) (q_toldSimple : Value) (q_toldDay : Value) (q_toldYes : Value) (q_yesOf : Value) (q_noOf : Value) (q_factOf : Value) (q_stack : Value) (q_one : Value) (q_two : Value) (q_three : Value) (v_thrown : Int32) (v_textSize : Int32) (v_place : Int32) (v_questionSize : Int32) (v_facts : Int32) (v_isSo : Int32) (v_common : Int32) (v_readFacts : Int32) (v_readSo : Int32) (v_readCommon : Int32) (v_readDay : Int32) (v_seed : Int64) (v_acts : Int32) (v_told : Int32) (v_question : (Nat → Int32)) (o : Int32) (hm : m_X10_slipOf v_questionSize v_facts v_question = some o) : Met l yX10_slipOf wsX10_slipOf { frames := 2, cells := 0, slots := 0, locals := 47 } (va_Pc [.ref a_th] (cP (dC, dI) (kT cI cJ cZ cQ) t sz [oX10 a_th (.int v_thrown) q_text (.int v_textSize) (.int v_place) (.ref a_question) (.int v_questionSize) (.int v_facts) (.int v_isSo) (.int v_common) (.int v_readFacts) (.int v_readSo) (.int v_readCommon) (.int v_readDay) q_page (.long v_seed) q_book q_bookSeed (.int v_acts) q_kept q_isKept (.int v_told) q_toldSimple q_toldDay q_toldYes q_yesOf q_noOf q_factOf q_stack q_one q_two q_three, aI cI a_question 16 v_question])) (cQi (dC, dI) (va_A [oX10 a_th (.int v_thrown) q_text (.int v_textSize) (.int v_place) (.ref a_question) (.int v_questionSize) (.int v_facts) (.int v_isSo) (.int v_common) (.int v_readFacts) (.int v_readSo) (.int v_readCommon) (.int v_readDay) q_page (.long v_seed) q_book q_bookSeed (.int v_acts) q_kept q_isKept (.int v_told) q_toldSimple q_toldDay q_toldYes q_yesOf q_noOf q_factOf q_stack q_one q_two q_three, aI cI a_question 16 v_question] sz) o [oX10 a_th (.int v_thrown) q_text (.int v_textSize) (.int v_place) (.ref a_question) (.int v_questionSize) (.int v_facts) (.int v_isSo) (.int v_common) (.int v_readFacts) (.int v_readSo) (.int v_readCommon) (.int v_readDay) q_page (.long v_seed) q_book q_bookSeed (.int v_acts) q_kept q_isKept (.int v_told) q_toldSimple q_toldDay q_toldYes q_yesOf q_noOf q_factOf q_stack q_one q_two q_three, aI cI a_question 16 v_question]) 0 0 (va_A [oX10 a_th (.int v_thrown) q_text (.int v_textSize) (.int v_place) (.ref a_question) (.int v_questionSize) (.int v_facts) (.int v_isSo) (.int v_common) (.int v_readFacts) (.int v_readSo) (.int v_readCommon) (.int v_readDay) q_page (.long v_seed) q_book q_bookSeed (.int v_acts) q_kept q_isKept (.int v_told) q_toldSimple q_toldDay q_toldYes q_yesOf q_noOf q_factOf q_stack q_one q_two q_three, aI cI a_question 16 v_question] sz) := by
  refine Met.ofW (cc := cX10_slipOf) (maxL := 4) (ret := (some .int)) (by decide) rfl ?_
  intro p e s m args below meth c s₁ B hml hv
  obtain ⟨rfl, hsz, hP, hK, hD0, hG⟩ := hv
  have hx := B.exec
  have hb := B.bytes
  have hr := B.returns
  have hts := atoms_spec (ws := wsX10_slipOf) B.pre
  have hown : s.vm.findClass RX10 = some m.cls := findClass_of_methodNamed B.named
  have hlocks := B.notSynchronized
  subst hsz
  have hD := hD0.self (sz := s.heap.size)
  generalize hAe : va_A [oX10 a_th (.int v_thrown) q_text (.int v_textSize) (.int v_place) (.ref a_question) (.int v_questionSize) (.int v_facts) (.int v_isSo) (.int v_common) (.int v_readFacts) (.int v_readSo) (.int v_readCommon) (.int v_readDay) q_page (.long v_seed) q_book q_bookSeed (.int v_acts) q_kept q_isKept (.int v_told) q_toldSimple q_toldDay q_toldYes q_yesOf q_noOf q_factOf q_stack q_one q_two q_three, aI cI a_question 16 v_question] s.heap.size = A at hD hG ⊢
  have hA : ∀ q : Nat, s.heap.size ≤ q → A q := fun q h => by rw [← hAe]; exact Or.inr h
  have hS : va_S A s.heap s.heap [] := va_S.rf
  have hl := lv_entry ([.ref a_th]) (n := 4) (Nat.le_of_ble_eq_true rfl)
  rw [lg_entry_eq]
  generalize (lg_sl ([.ref a_th]) ++ List.replicate (4 - (lg_sl ([.ref a_th])).length) Slot.unset).toArray = ls at hl ⊢
  have hl : lv_has ls 4 [(0, .ref a_th)] := hl
  have iX10 : ∀ w ∈ wsX100, w ∈ wsX10_slipOf := fun _ h => List.mem_cons_of_mem _ (List.mem_append_right _ h)
  have f117 := hts (.fieldLink RX10 117 "TrueOnceWeekModel" "questionSize" "I") (by decide +kernel)
  have f13 := hts (.fieldLink RX10 13 "TrueOnceWeekModel" "question" "[I") (by decide +kernel)
  refine kb_gen (fun Q hQ => ?_)
  unfold m_X10_slipOf at hm
  refine lv_iconst (v := (1 : Int32)) hx hb dX10_slipOf_0 (by decide) ?_
  refine lv_istore_n (lv' := [(1, .int (1 : Int32)), (0, .ref a_th)]) hx hb dX10_slipOf_1 rfl hl (by decide) rfl (fun ls hl => ?_)
  refine lv_iconst (v := (0 : Int32)) hx hb dX10_slipOf_2 (by decide) ?_
  refine lv_istore_n (lv' := [(2, .int (0 : Int32)), (1, .int (1 : Int32)), (0, .ref a_th)]) hx hb dX10_slipOf_3 rfl hl (by decide) rfl (fun ls hl => ?_)
  have lp4 : ∀ (n4 : Nat) (x1 : Int32) (x2 : Int32) (k4 : Int32 → Option (Int32)) (H : Heap) (locs : List Loc) (ls : Array Slot), L_X10_slipOf_4 v_questionSize v_facts v_question n4 x1 x2 k4 = some o → (∀ (x3 : Int32) (H : Heap) (locs : List Loc) (ls : Array Slot), k4 x3 = some o → va_P (dC, dI) vwCl [oX10 a_th (.int v_thrown) q_text (.int v_textSize) (.int v_place) (.ref a_question) (.int v_questionSize) (.int v_facts) (.int v_isSo) (.int v_common) (.int v_readFacts) (.int v_readSo) (.int v_readCommon) (.int v_readDay) q_page (.long v_seed) q_book q_bookSeed (.int v_acts) q_kept q_isKept (.int v_told) q_toldSimple q_toldDay q_toldYes q_yesOf q_noOf q_factOf q_stack q_one q_two q_three, aI cI a_question 16 v_question] H → va_S A s.heap H locs → lv_has ls 4 [(0, .ref a_th), (1, .int x3)] → W p l e (headSpec wsX10_slipOf { frames := 2, cells := 0, slots := 0, locals := 47 }).room s m [.ref a_th].toArray below meth c H locs 0 0 Q (F0 m 47 ls [])) → va_P (dC, dI) vwCl [oX10 a_th (.int v_thrown) q_text (.int v_textSize) (.int v_place) (.ref a_question) (.int v_questionSize) (.int v_facts) (.int v_isSo) (.int v_common) (.int v_readFacts) (.int v_readSo) (.int v_readCommon) (.int v_readDay) q_page (.long v_seed) q_book q_bookSeed (.int v_acts) q_kept q_isKept (.int v_told) q_toldSimple q_toldDay q_toldYes q_yesOf q_noOf q_factOf q_stack q_one q_two q_three, aI cI a_question 16 v_question] H → va_S A s.heap H locs → lv_has ls 4 [(0, .ref a_th), (1, .int x1), (2, .int x2)] → W p l e (headSpec wsX10_slipOf { frames := 2, cells := 0, slots := 0, locals := 47 }).room s m [.ref a_th].toArray below meth c H locs 0 0 Q (F0 m 4 ls []) := by
    intro n4
    induction n4 with
    | zero =>
      intro x1 x2 k4 H locs ls hm
      cases (show (none : Option (Int32)) = some o from hm)
    | succ n4 ih4 =>
      intro x1 x2 k4 H locs ls hm hk4 hP hS hl
      rw [L_X10_slipOf_4.eq_2] at hm
      refine lv_iload_n hx hb dX10_slipOf_4 rfl (lv_at hl 2 rfl) ?_
      refine lv_aload_n hx hb dX10_slipOf_5 rfl (lv_at hl 0 rfl) ?_
      refine va_get (D := (dC, dI)) (ci := 8) (v := .int v_questionSize) (C := RX10) (T := TX10) (N := 31) hx hb hts iX10 hown hK hP 0 rfl rfl 5 (by decide) f117 (fun _ h9 => h9) rfl dX10_slipOf_6 ?_
      refine lv_icmp_ge (tgt := 47) hx hb dX10_slipOf_9 (by decide) (fun c4 => ?_) (fun c4 => ?_)
      · replace hm := ite_t c4 hm
        exact hk4 x1 _ _ _ hm hP hS (lv_sub hl [0, 1] rfl)
      · replace hm := ite_f c4 hm
        refine lv_aload_n hx hb dX10_slipOf_12 rfl (lv_at hl 0 rfl) ?_
        refine lv_aload_n hx hb dX10_slipOf_13 rfl (lv_at hl 0 rfl) ?_
        refine va_get (D := (dC, dI)) (ci := 8) (v := .ref a_question) (C := RX10) (T := TX10) (N := 31) hx hb hts iX10 hown hK hP 0 rfl rfl 4 (by decide) f13 (fun _ h9 => h9) rfl dX10_slipOf_14 ?_
        refine lv_iload_n hx hb dX10_slipOf_17 rfl (lv_at hl 2 rfl) ?_
        obtain ⟨h5, hm⟩ := gd_s hm
        refine va_iald hx hb hK hP 1 0 rfl rfl (inB_s h5) dX10_slipOf_18 ?_
        obtain ⟨r6, ho7, hm⟩ := bd1_s hm
        refine kb_calli (Rv := r6) (va_runV (As := [.int (v_question (Int32.toNatClampNeg x2))]) (rest := []) ⟨hx, hb, hml, hown, hts⟩ (c_X10_wants l dC dI cI cJ cZ cQ t H.size a_th q_text (.ref a_question) q_page q_book q_bookSeed q_kept q_isKept q_toldSimple q_toldDay q_toldYes q_yesOf q_noOf q_factOf q_stack q_one q_two q_three v_thrown v_textSize v_place v_questionSize v_facts v_isSo v_common v_readFacts v_readSo v_readCommon v_readDay v_seed v_acts v_told (v_question (Int32.toNatClampNeg x2)) (r6) ho7) (cwV 1 hts gX10_slipOf_X10_wants rfl rfl rfl (by decide +kernel) ⟨(Nat.le_of_ble_eq_true rfl), (Nat.le_of_ble_eq_true rfl)⟩) ⟨(kb_pre hK hG hP (kb_D hD rfl) hS hA [0] rfl (by decide)).1, (va_recv hK hP (ci := 8) (q0 := 0) rfl rfl), (kb_pre hK hG hP (kb_D hD rfl) hS hA [0] rfl (by decide)).2⟩ rfl rfl hl.1 rfl (lv_room (Nat.le_of_ble_eq_true rfl)) dX10_slipOf_19 ⟨Nat.zero_le _, Nat.zero_le _⟩) hP (kb_D hD rfl) hS hA [0] rfl [(true, 0), (false, 1)] (w2 := [oX10 a_th (.int v_thrown) q_text (.int v_textSize) (.int v_place) (.ref a_question) (.int v_questionSize) (.int v_facts) (.int v_isSo) (.int v_common) (.int v_readFacts) (.int v_readSo) (.int v_readCommon) (.int v_readDay) q_page (.long v_seed) q_book q_bookSeed (.int v_acts) q_kept q_isKept (.int v_told) q_toldSimple q_toldDay q_toldYes q_yesOf q_noOf q_factOf q_stack q_one q_two q_three, aI cI a_question 16 v_question]) rfl (by decide) (fun H locs hP hS => ?_)
        refine lv_istore_n (lv' := [(3, .int r6), (0, .ref a_th), (1, .int x1), (2, .int x2)]) hx hb dX10_slipOf_22 rfl hl (by decide) rfl (fun ls hl => ?_)
        refine lv_iload_n hx hb dX10_slipOf_23 rfl (lv_at hl 2 rfl) ?_
        refine lv_if_eq (tgt := 33) hx hb dX10_slipOf_24 (by decide) (fun c8 => ?_) (fun c8 => ?_)
        · replace hm := ite_t c8 hm
          refine lv_iload_n hx hb dX10_slipOf_33 rfl (lv_at hl 3 rfl) ?_
          obtain rfl := Option.some.inj hm
          subst hQ
          exact W.iret hx hb hr (fun t ht hW => ⟨⟨_, (), rfl, rfl, kb_h hP ht⟩, hS.F ht⟩) hS.2.2 dX10_slipOf_34
        · replace hm := ite_f c8 hm
          refine lv_iload_n hx hb dX10_slipOf_27 rfl (lv_at hl 0 rfl) ?_
          refine lv_bipush (v := (-9 : Int32)) hx hb dX10_slipOf_28 (by decide) ?_
          refine lv_icmp_ne (tgt := 35) hx hb dX10_slipOf_30 (by decide) (fun c9 => ?_) (fun c9 => ?_)
          · replace hm := ite_f c9 hm
            refine lv_iload_n hx hb dX10_slipOf_35 rfl (lv_at hl 2 rfl) ?_
            refine lv_iload_n hx hb dX10_slipOf_36 rfl (lv_at hl 0 rfl) ?_
            refine lv_iconst (v := (1 : Int32)) hx hb dX10_slipOf_37 (by decide) ?_
            refine lv_isub hx hb dX10_slipOf_38 ?_
            refine lv_iadd hx hb dX10_slipOf_39 ?_
            refine lv_topi (fun x10 ex10 => ?_)
            replace hm := nm_t ex10 hm
            refine lv_istore_n (lv' := [(1, .int x10), (3, .int r6), (0, .ref a_th), (2, .int x2)]) hx hb dX10_slipOf_40 rfl hl (by decide) rfl (fun ls hl => ?_)
            obtain ⟨x11, ex11⟩ : ∃ y : Int32, y = x2 + (1 : Int32) := ⟨_, rfl⟩
            replace hm := nm_t ex11 hm
            refine lv_iinc (v := x11) (lv' := [(2, .int x11), (1, .int x10), (3, .int r6), (0, .ref a_th)]) hx hb dX10_slipOf_41 hl (k := 3) rfl (by rw [ex11]; rfl) (by decide) rfl (fun ls hl => ?_)
            refine lv_goto (tgt := 4) hx hb dX10_slipOf_44 (by decide) ?_
            exact ih4 x10 x11 k4 _ _ _ hm hk4 hP hS (lv_sub hl [3, 1, 0] rfl)
          · replace hm := ite_t c9 hm
            refine lv_iload_n hx hb dX10_slipOf_33 rfl (lv_at hl 3 rfl) ?_
            obtain rfl := Option.some.inj hm
            subst hQ
            exact W.iret hx hb hr (fun t ht hW => ⟨⟨_, (), rfl, rfl, kb_h hP ht⟩, hS.F ht⟩) hS.2.2 dX10_slipOf_34
  refine lp4 1024 (1 : Int32) (0 : Int32) _ _ _ _ hm (fun x3 H locs ls hm hP hS hl => ?_) hP hS (lv_sub hl [2, 1, 0] rfl)
  refine lv_iload_n hx hb dX10_slipOf_47 rfl (lv_at hl 1 rfl) ?_
  refine lv_if_ne (tgt := 56) hx hb dX10_slipOf_48 (by decide) (fun c12 => ?_) (fun c12 => ?_)
  · replace hm := ite_f c12 hm
    refine lv_aload_n hx hb dX10_slipOf_56 rfl (lv_at hl 0 rfl) ?_
    refine va_get (D := (dC, dI)) (ci := 8) (v := .int v_questionSize) (C := RX10) (T := TX10) (N := 31) hx hb hts iX10 hown hK hP 0 rfl rfl 5 (by decide) f117 (fun _ h9 => h9) rfl dX10_slipOf_57 ?_
    obtain rfl := Option.some.inj hm
    subst hQ
    exact W.iret hx hb hr (fun t ht hW => ⟨⟨_, (), rfl, rfl, kb_h hP ht⟩, hS.F ht⟩) hS.2.2 dX10_slipOf_60
  · replace hm := ite_t c12 hm
    refine lv_bipush (v := (-9 : Int32)) hx hb dX10_slipOf_51 (by decide) ?_
    refine lv_goto (tgt := 60) hx hb dX10_slipOf_53 (by decide) ?_
    obtain rfl := Option.some.inj hm
    subst hQ
    exact W.iret hx hb hr (fun t ht hW => ⟨⟨_, (), rfl, rfl, kb_h hP ht⟩, hS.F ht⟩) hS.2.2 dX10_slipOf_60
set_option maxHeartbeats 4000000 in
set_option maxRecDepth 100000 in
theorem c_X10_slip (l : Launch) (dC : Nat → ClassId) (dI : Nat → Nat → Nat) (cI cJ cZ cQ : ClassId) (t sz : Nat) (a_th : Nat) (a_question : Nat) (q_text : Value) (q_page : Value) (q_book : Value) (q_bookSeed : Value) (q_kept : Value) (q_isKept : Value) (q_toldSimple : Value) (q_toldDay : Value) (q_toldYes : Value) (q_yesOf : Value) (q_noOf : Value) (q_factOf : Value) (q_stack : Value) (q_one : Value) (q_two : Value) (q_three : Value) (v_thrown : Int32) (v_textSize : Int32) (v_place : Int32) (v_questionSize : Int32) (v_facts : Int32) (v_isSo : Int32) (v_common : Int32) (v_readFacts : Int32) (v_readSo : Int32) (v_readCommon : Int32) (v_readDay : Int32) (v_seed : Int64) (v_acts : Int32) (v_told : Int32) (v_question : (Nat → Int32)) (o : Int32 × Int32) (hm : m_X10_slip v_thrown v_questionSize v_facts v_question = some o) : Met l yX10_slip wsX10_slip { frames := 3, cells := 0, slots := 0, locals := 70 } (va_Pc [.ref a_th] (cP (dC, dI) (kT cI cJ cZ cQ) t sz [oX10 a_th (.int v_thrown) q_text (.int v_textSize) (.int v_place) (.ref a_question) (.int v_questionSize) (.int v_facts) (.int v_isSo) (.int v_common) (.int v_readFacts) (.int v_readSo) (.int v_readCommon) (.int v_readDay) q_page (.long v_seed) q_book q_bookSeed (.int v_acts) q_kept q_isKept (.int v_told) q_toldSimple q_toldDay q_toldYes q_yesOf q_noOf q_factOf q_stack q_one q_two q_three, aI cI a_question 16 v_question])) (cQi (dC, dI) (va_A [oX10 a_th (.int v_thrown) q_text (.int v_textSize) (.int v_place) (.ref a_question) (.int v_questionSize) (.int v_facts) (.int v_isSo) (.int v_common) (.int v_readFacts) (.int v_readSo) (.int v_readCommon) (.int v_readDay) q_page (.long v_seed) q_book q_bookSeed (.int v_acts) q_kept q_isKept (.int v_told) q_toldSimple q_toldDay q_toldYes q_yesOf q_noOf q_factOf q_stack q_one q_two q_three, aI cI a_question 16 v_question] sz) o.1 [oX10 a_th (.int (o.2)) q_text (.int v_textSize) (.int v_place) (.ref a_question) (.int v_questionSize) (.int v_facts) (.int v_isSo) (.int v_common) (.int v_readFacts) (.int v_readSo) (.int v_readCommon) (.int v_readDay) q_page (.long v_seed) q_book q_bookSeed (.int v_acts) q_kept q_isKept (.int v_told) q_toldSimple q_toldDay q_toldYes q_yesOf q_noOf q_factOf q_stack q_one q_two q_three, aI cI a_question 16 v_question]) 0 0 (va_A [oX10 a_th (.int v_thrown) q_text (.int v_textSize) (.int v_place) (.ref a_question) (.int v_questionSize) (.int v_facts) (.int v_isSo) (.int v_common) (.int v_readFacts) (.int v_readSo) (.int v_readCommon) (.int v_readDay) q_page (.long v_seed) q_book q_bookSeed (.int v_acts) q_kept q_isKept (.int v_told) q_toldSimple q_toldDay q_toldYes q_yesOf q_noOf q_factOf q_stack q_one q_two q_three, aI cI a_question 16 v_question] sz) := by
  refine Met.ofW (cc := cX10_slip) (maxL := 1) (ret := (some .int)) (by decide) rfl ?_
  intro p e s m args below meth c s₁ B hml hv
  obtain ⟨rfl, hsz, hP, hK, hD0, hG⟩ := hv
  have hx := B.exec
  have hb := B.bytes
  have hr := B.returns
  have hts := atoms_spec (ws := wsX10_slip) B.pre
  have hown : s.vm.findClass RX10 = some m.cls := findClass_of_methodNamed B.named
  have hlocks := B.notSynchronized
  subst hsz
  have hD := hD0.self (sz := s.heap.size)
  generalize hAe : va_A [oX10 a_th (.int v_thrown) q_text (.int v_textSize) (.int v_place) (.ref a_question) (.int v_questionSize) (.int v_facts) (.int v_isSo) (.int v_common) (.int v_readFacts) (.int v_readSo) (.int v_readCommon) (.int v_readDay) q_page (.long v_seed) q_book q_bookSeed (.int v_acts) q_kept q_isKept (.int v_told) q_toldSimple q_toldDay q_toldYes q_yesOf q_noOf q_factOf q_stack q_one q_two q_three, aI cI a_question 16 v_question] s.heap.size = A at hD hG ⊢
  have hA : ∀ q : Nat, s.heap.size ≤ q → A q := fun q h => by rw [← hAe]; exact Or.inr h
  have hS : va_S A s.heap s.heap [] := va_S.rf
  have hl := lv_entry ([.ref a_th]) (n := 1) (Nat.le_of_ble_eq_true rfl)
  rw [lg_entry_eq]
  generalize (lg_sl ([.ref a_th]) ++ List.replicate (1 - (lg_sl ([.ref a_th])).length) Slot.unset).toArray = ls at hl ⊢
  have hl : lv_has ls 1 [(0, .ref a_th)] := hl
  have iX10 : ∀ w ∈ wsX100, w ∈ wsX10_slip := fun _ h => List.mem_cons_of_mem _ (List.mem_append_right _ h)
  have f66 := hts (.fieldLink RX10 66 "TrueOnceWeekModel" "thrown" "I") (by decide +kernel)
  refine kb_gen (fun Q hQ => ?_)
  unfold m_X10_slip at hm
  refine lv_aload_n hx hb dX10_slip_0 rfl (lv_at hl 0 rfl) ?_
  refine lv_iconst (v := (0 : Int32)) hx hb dX10_slip_1 (by decide) ?_
  refine va_put (D := (dC, dI)) (ci := 8) (v := .int (0 : Int32)) (ty := .int) (C := RX10) (T := TX10) (N := 31) hx hb hts iX10 tyX10 tyX10_ok nmX10 hown hK hP (kb_D hD rfl) hS 0 rfl rfl 0 (by decide) f66 (fun _ h9 => h9) rfl (by decide +kernel) rfl rfl (Nat.le_of_ble_eq_true rfl) dX10_slip_2 (fun H locs hP _ hS => ?_)
  have hP : va_P (dC, dI) vwCl [oX10 a_th (.int (0 : Int32)) q_text (.int v_textSize) (.int v_place) (.ref a_question) (.int v_questionSize) (.int v_facts) (.int v_isSo) (.int v_common) (.int v_readFacts) (.int v_readSo) (.int v_readCommon) (.int v_readDay) q_page (.long v_seed) q_book q_bookSeed (.int v_acts) q_kept q_isKept (.int v_told) q_toldSimple q_toldDay q_toldYes q_yesOf q_noOf q_factOf q_stack q_one q_two q_three, aI cI a_question 16 v_question] H := hP
  refine lv_aload_n hx hb dX10_slip_5 rfl (lv_at hl 0 rfl) ?_
  obtain ⟨r1, ho2, hm⟩ := bd1_s hm
  refine kb_calli (Rv := r1) (va_runV (As := []) (rest := []) ⟨hx, hb, hml, hown, hts⟩ (c_X10_slipOf l dC dI cI cJ cZ cQ t H.size a_th a_question q_text q_page q_book q_bookSeed q_kept q_isKept q_toldSimple q_toldDay q_toldYes q_yesOf q_noOf q_factOf q_stack q_one q_two q_three (0 : Int32) v_textSize v_place v_questionSize v_facts v_isSo v_common v_readFacts v_readSo v_readCommon v_readDay v_seed v_acts v_told v_question (r1) ho2) (cwV 0 hts gX10_slip_X10_slipOf rfl rfl rfl (by decide +kernel) ⟨(Nat.le_of_ble_eq_true rfl), (Nat.le_of_ble_eq_true rfl)⟩) ⟨(kb_pre hK hG hP (kb_D hD rfl) hS hA [0, 1] rfl (by decide)).1, (va_recv hK hP (ci := 8) (q0 := 0) rfl rfl), (kb_pre hK hG hP (kb_D hD rfl) hS hA [0, 1] rfl (by decide)).2⟩ rfl rfl hl.1 rfl (lv_room (Nat.le_of_ble_eq_true rfl)) dX10_slip_6 ⟨Nat.zero_le _, Nat.zero_le _⟩) hP (kb_D hD rfl) hS hA [0, 1] rfl [(true, 0), (true, 1)] (w2 := [oX10 a_th (.int (0 : Int32)) q_text (.int v_textSize) (.int v_place) (.ref a_question) (.int v_questionSize) (.int v_facts) (.int v_isSo) (.int v_common) (.int v_readFacts) (.int v_readSo) (.int v_readCommon) (.int v_readDay) q_page (.long v_seed) q_book q_bookSeed (.int v_acts) q_kept q_isKept (.int v_told) q_toldSimple q_toldDay q_toldYes q_yesOf q_noOf q_factOf q_stack q_one q_two q_three, aI cI a_question 16 v_question]) rfl (by decide) (fun H locs hP hS => ?_)
  obtain rfl := Option.some.inj hm
  subst hQ
  exact W.iret hx hb hr (fun t ht hW => ⟨⟨_, (), rfl, rfl, kb_h hP ht⟩, hS.F ht⟩) hS.2.2 dX10_slip_9
set_option maxHeartbeats 4000000 in
set_option maxRecDepth 100000 in
theorem c_X10_daysOf (l : Launch) (dC : Nat → ClassId) (dI : Nat → Nat → Nat) (cI cJ cZ cQ : ClassId) (t sz : Nat) (a_p0 : Nat) (n_p0 : Nat) (v_p0 : (Nat → Int32)) (o : Int32) (hm : m_X10_daysOf n_p0 v_p0 = some o) : Met l yX10_daysOf wsX10_daysOf { frames := 0, cells := 0, slots := 0, locals := 0 } (va_Pc [.ref a_p0] (cP (dC, dI) (kT cI cJ cZ cQ) t sz [aI cI a_p0 n_p0 v_p0])) (cQi (dC, dI) (va_A [aI cI a_p0 n_p0 v_p0] sz) o [aI cI a_p0 n_p0 v_p0]) 0 0 (va_A [aI cI a_p0 n_p0 v_p0] sz) := by
  refine Met.ofW (cc := cX10_daysOf) (maxL := 3) (ret := (some .int)) (by decide) rfl ?_
  intro p e s m args below meth c s₁ B hml hv
  obtain ⟨rfl, hsz, hP, hK, hD0, hG⟩ := hv
  have hx := B.exec
  have hb := B.bytes
  have hr := B.returns
  have hts := atoms_spec (ws := wsX10_daysOf) B.pre
  have hown : s.vm.findClass RX10 = some m.cls := findClass_of_methodNamed B.named
  have hlocks := B.notSynchronized
  subst hsz
  have hD := hD0.self (sz := s.heap.size)
  generalize hAe : va_A [aI cI a_p0 n_p0 v_p0] s.heap.size = A at hD hG ⊢
  have hA : ∀ q : Nat, s.heap.size ≤ q → A q := fun q h => by rw [← hAe]; exact Or.inr h
  have hS : va_S A s.heap s.heap [] := va_S.rf
  have hl := lv_entry ([.ref a_p0]) (n := 3) (Nat.le_of_ble_eq_true rfl)
  rw [lg_entry_eq]
  generalize (lg_sl ([.ref a_p0]) ++ List.replicate (3 - (lg_sl ([.ref a_p0])).length) Slot.unset).toArray = ls at hl ⊢
  have hl : lv_has ls 3 [(0, .ref a_p0)] := hl
  refine kb_gen (fun Q hQ => ?_)
  unfold m_X10_daysOf at hm
  refine lv_iconst (v := (0 : Int32)) hx hb dX10_daysOf_0 (by decide) ?_
  refine lv_istore_n (lv' := [(1, .int (0 : Int32)), (0, .ref a_p0)]) hx hb dX10_daysOf_1 rfl hl (by decide) rfl (fun ls hl => ?_)
  refine lv_iconst (v := (0 : Int32)) hx hb dX10_daysOf_2 (by decide) ?_
  refine lv_istore_n (lv' := [(2, .int (0 : Int32)), (1, .int (0 : Int32)), (0, .ref a_p0)]) hx hb dX10_daysOf_3 rfl hl (by decide) rfl (fun ls hl => ?_)
  have lp4 : ∀ (n4 : Nat) (x1 : Int32) (x2 : Int32) (k4 : Int32 → Option (Int32)) (H : Heap) (locs : List Loc) (ls : Array Slot), L_X10_daysOf_4 v_p0 n_p0 n4 x1 x2 k4 = some o → (∀ (x3 : Int32) (H : Heap) (locs : List Loc) (ls : Array Slot), k4 x3 = some o → va_P (dC, dI) vwCl [aI cI a_p0 n_p0 v_p0] H → va_S A s.heap H locs → lv_has ls 3 [(1, .int x3)] → W p l e (headSpec wsX10_daysOf { frames := 0, cells := 0, slots := 0, locals := 0 }).room s m [.ref a_p0].toArray below meth c H locs 0 0 Q (F0 m 32 ls [])) → va_P (dC, dI) vwCl [aI cI a_p0 n_p0 v_p0] H → va_S A s.heap H locs → lv_has ls 3 [(0, .ref a_p0), (1, .int x1), (2, .int x2)] → W p l e (headSpec wsX10_daysOf { frames := 0, cells := 0, slots := 0, locals := 0 }).room s m [.ref a_p0].toArray below meth c H locs 0 0 Q (F0 m 4 ls []) := by
    intro n4
    induction n4 with
    | zero =>
      intro x1 x2 k4 H locs ls hm
      cases (show (none : Option (Int32)) = some o from hm)
    | succ n4 ih4 =>
      intro x1 x2 k4 H locs ls hm hk4 hP hS hl
      rw [L_X10_daysOf_4.eq_2] at hm
      refine lv_iload_n hx hb dX10_daysOf_4 rfl (lv_at hl 2 rfl) ?_
      refine lv_bipush (v := (7 : Int32)) hx hb dX10_daysOf_5 (by decide) ?_
      refine lv_icmp_ge (tgt := 32) hx hb dX10_daysOf_7 (by decide) (fun c4 => ?_) (fun c4 => ?_)
      · replace hm := ite_t c4 hm
        exact hk4 x1 _ _ _ hm hP hS (lv_sub hl [1] rfl)
      · replace hm := ite_f c4 hm
        refine lv_iload_n hx hb dX10_daysOf_10 rfl (lv_at hl 1 rfl) ?_
        refine lv_aload_n hx hb dX10_daysOf_11 rfl (lv_at hl 0 rfl) ?_
        refine lv_iload_n hx hb dX10_daysOf_12 rfl (lv_at hl 2 rfl) ?_
        obtain ⟨h5, hm⟩ := gd_s hm
        refine va_iald hx hb hK hP 0 0 rfl rfl (inB_s h5) dX10_daysOf_13 ?_
        obtain ⟨k24, ek24, hm⟩ := nm_s hm
        have J24 : ∀ (x6 : Int32) (H : Heap) (locs : List Loc) (ls : Array Slot), k24 x6 = some o → va_P (dC, dI) vwCl [aI cI a_p0 n_p0 v_p0] H → va_S A s.heap H locs → lv_has ls 3 [(0, .ref a_p0), (2, .int x2)] → W p l e (headSpec wsX10_daysOf { frames := 0, cells := 0, slots := 0, locals := 0 }).room s m [.ref a_p0].toArray below meth c H locs 0 0 Q (F0 m 24 ls [.int x6, .int x1]) := by
          intro x6 H locs ls hm hP hS hl
          rw [ek24] at hm
          refine lv_ior hx hb dX10_daysOf_24 ?_
          refine lv_topi (fun x7 ex7 => ?_)
          replace hm := nm_t ex7 hm
          refine lv_istore_n (lv' := [(1, .int x7), (0, .ref a_p0), (2, .int x2)]) hx hb dX10_daysOf_25 rfl hl (by decide) rfl (fun ls hl => ?_)
          obtain ⟨x8, ex8⟩ : ∃ y : Int32, y = x2 + (1 : Int32) := ⟨_, rfl⟩
          replace hm := nm_t ex8 hm
          refine lv_iinc (v := x8) (lv' := [(2, .int x8), (1, .int x7), (0, .ref a_p0)]) hx hb dX10_daysOf_26 hl (k := 2) rfl (by rw [ex8]; rfl) (by decide) rfl (fun ls hl => ?_)
          refine lv_goto (tgt := 4) hx hb dX10_daysOf_29 (by decide) ?_
          exact ih4 x7 x8 k4 _ _ _ hm hk4 hP hS (lv_sub hl [2, 1, 0] rfl)
        refine lv_if_eq (tgt := 23) hx hb dX10_daysOf_14 (by decide) (fun c9 => ?_) (fun c9 => ?_)
        · replace hm := ite_t c9 hm
          refine lv_iconst (v := (0 : Int32)) hx hb dX10_daysOf_23 (by decide) ?_
          exact J24 (0 : Int32) _ _ _ hm hP hS (lv_sub hl [0, 2] rfl)
        · replace hm := ite_f c9 hm
          refine lv_iconst (v := (1 : Int32)) hx hb dX10_daysOf_17 (by decide) ?_
          refine lv_iload_n hx hb dX10_daysOf_18 rfl (lv_at hl 2 rfl) ?_
          refine lv_ishl hx hb dX10_daysOf_19 ?_
          refine lv_goto (tgt := 24) hx hb dX10_daysOf_20 (by decide) ?_
          exact J24 ((1 : Int32) <<< (x2 &&& 31)) _ _ _ hm hP hS (lv_sub hl [0, 2] rfl)
  refine lp4 1024 (0 : Int32) (0 : Int32) _ _ _ _ hm (fun x3 H locs ls hm hP hS hl => ?_) hP hS (lv_sub hl [2, 1, 0] rfl)
  refine lv_iload_n hx hb dX10_daysOf_32 rfl (lv_at hl 0 rfl) ?_
  obtain rfl := Option.some.inj hm
  subst hQ
  exact W.iret hx hb hr (fun t ht hW => ⟨⟨_, (), rfl, rfl, kb_h hP ht⟩, hS.F ht⟩) hS.2.2 dX10_daysOf_33
set_option maxHeartbeats 4000000 in
set_option maxRecDepth 100000 in
theorem c_X10_many (l : Launch) (dC : Nat → ClassId) (dI : Nat → Nat → Nat) (cI cJ cZ cQ : ClassId) (t sz : Nat) (p_0 : Int32) (o : Int32) (hm : m_X10_many p_0 = some o) : Met l yX10_many wsX10_many { frames := 0, cells := 0, slots := 0, locals := 0 } (va_Pc [.int p_0] (cP (dC, dI) (kT cI cJ cZ cQ) t sz [])) (cQi (dC, dI) (va_A [] sz) o []) 0 0 (va_A [] sz) := by
  refine Met.ofW (cc := cX10_many) (maxL := 3) (ret := (some .int)) (by decide) rfl ?_
  intro p e s m args below meth c s₁ B hml hv
  obtain ⟨rfl, hsz, hP, hK, hD0, hG⟩ := hv
  have hx := B.exec
  have hb := B.bytes
  have hr := B.returns
  have hts := atoms_spec (ws := wsX10_many) B.pre
  have hown : s.vm.findClass RX10 = some m.cls := findClass_of_methodNamed B.named
  have hlocks := B.notSynchronized
  subst hsz
  have hD := hD0.self (sz := s.heap.size)
  generalize hAe : va_A [] s.heap.size = A at hD hG ⊢
  have hA : ∀ q : Nat, s.heap.size ≤ q → A q := fun q h => by rw [← hAe]; exact Or.inr h
  have hS : va_S A s.heap s.heap [] := va_S.rf
  have hl := lv_entry ([.int p_0]) (n := 3) (Nat.le_of_ble_eq_true rfl)
  rw [lg_entry_eq]
  generalize (lg_sl ([.int p_0]) ++ List.replicate (3 - (lg_sl ([.int p_0])).length) Slot.unset).toArray = ls at hl ⊢
  have hl : lv_has ls 3 [(0, .int p_0)] := hl
  refine kb_gen (fun Q hQ => ?_)
  unfold m_X10_many at hm
  refine lv_iconst (v := (0 : Int32)) hx hb dX10_many_0 (by decide) ?_
  refine lv_istore_n (lv' := [(1, .int (0 : Int32)), (0, .int p_0)]) hx hb dX10_many_1 rfl hl (by decide) rfl (fun ls hl => ?_)
  refine lv_iconst (v := (0 : Int32)) hx hb dX10_many_2 (by decide) ?_
  refine lv_istore_n (lv' := [(2, .int (0 : Int32)), (1, .int (0 : Int32)), (0, .int p_0)]) hx hb dX10_many_3 rfl hl (by decide) rfl (fun ls hl => ?_)
  have lp4 : ∀ (n4 : Nat) (x1 : Int32) (x2 : Int32) (k4 : Int32 → Option (Int32)) (H : Heap) (locs : List Loc) (ls : Array Slot), L_X10_many_4 p_0 n4 x1 x2 k4 = some o → (∀ (x3 : Int32) (H : Heap) (locs : List Loc) (ls : Array Slot), k4 x3 = some o → va_P (dC, dI) vwCl [] H → va_S A s.heap H locs → lv_has ls 3 [(1, .int x3)] → W p l e (headSpec wsX10_many { frames := 0, cells := 0, slots := 0, locals := 0 }).room s m [.int p_0].toArray below meth c H locs 0 0 Q (F0 m 24 ls [])) → va_P (dC, dI) vwCl [] H → va_S A s.heap H locs → lv_has ls 3 [(0, .int p_0), (1, .int x1), (2, .int x2)] → W p l e (headSpec wsX10_many { frames := 0, cells := 0, slots := 0, locals := 0 }).room s m [.int p_0].toArray below meth c H locs 0 0 Q (F0 m 4 ls []) := by
    intro n4
    induction n4 with
    | zero =>
      intro x1 x2 k4 H locs ls hm
      cases (show (none : Option (Int32)) = some o from hm)
    | succ n4 ih4 =>
      intro x1 x2 k4 H locs ls hm hk4 hP hS hl
      rw [L_X10_many_4.eq_2] at hm
      refine lv_iload_n hx hb dX10_many_4 rfl (lv_at hl 2 rfl) ?_
      refine lv_bipush (v := (32 : Int32)) hx hb dX10_many_5 (by decide) ?_
      refine lv_icmp_ge (tgt := 24) hx hb dX10_many_7 (by decide) (fun c4 => ?_) (fun c4 => ?_)
      · replace hm := ite_t c4 hm
        exact hk4 x1 _ _ _ hm hP hS (lv_sub hl [1] rfl)
      · replace hm := ite_f c4 hm
        refine lv_iload_n hx hb dX10_many_10 rfl (lv_at hl 1 rfl) ?_
        refine lv_iload_n hx hb dX10_many_11 rfl (lv_at hl 0 rfl) ?_
        refine lv_iload_n hx hb dX10_many_12 rfl (lv_at hl 2 rfl) ?_
        refine lv_ishr hx hb dX10_many_13 ?_
        refine lv_iconst (v := (1 : Int32)) hx hb dX10_many_14 (by decide) ?_
        refine lv_iand hx hb dX10_many_15 ?_
        refine lv_iadd hx hb dX10_many_16 ?_
        refine lv_topi (fun x5 ex5 => ?_)
        replace hm := nm_t ex5 hm
        refine lv_istore_n (lv' := [(1, .int x5), (0, .int p_0), (2, .int x2)]) hx hb dX10_many_17 rfl hl (by decide) rfl (fun ls hl => ?_)
        obtain ⟨x6, ex6⟩ : ∃ y : Int32, y = x2 + (1 : Int32) := ⟨_, rfl⟩
        replace hm := nm_t ex6 hm
        refine lv_iinc (v := x6) (lv' := [(2, .int x6), (1, .int x5), (0, .int p_0)]) hx hb dX10_many_18 hl (k := 2) rfl (by rw [ex6]; rfl) (by decide) rfl (fun ls hl => ?_)
        refine lv_goto (tgt := 4) hx hb dX10_many_21 (by decide) ?_
        exact ih4 x5 x6 k4 _ _ _ hm hk4 hP hS (lv_sub hl [2, 1, 0] rfl)
  refine lp4 1024 (0 : Int32) (0 : Int32) _ _ _ _ hm (fun x3 H locs ls hm hP hS hl => ?_) hP hS (lv_sub hl [2, 1, 0] rfl)
  refine lv_iload_n hx hb dX10_many_24 rfl (lv_at hl 0 rfl) ?_
  obtain rfl := Option.some.inj hm
  subst hQ
  exact W.iret hx hb hr (fun t ht hW => ⟨⟨_, (), rfl, rfl, kb_h hP ht⟩, hS.F ht⟩) hS.2.2 dX10_many_25
set_option maxHeartbeats 4000000 in
set_option maxRecDepth 100000 in
theorem c_X10_knownMany (l : Launch) (dC : Nat → ClassId) (dI : Nat → Nat → Nat) (cI cJ cZ cQ : ClassId) (t sz : Nat) (a_p0 : Nat) (n_p0 : Nat) (v_p0 : (Nat → Int32)) (o : Int32) (hm : m_X10_knownMany n_p0 v_p0 = some o) : Met l yX10_knownMany wsX10_knownMany { frames := 1, cells := 0, slots := 0, locals := 22 } (va_Pc [.ref a_p0] (cP (dC, dI) (kT cI cJ cZ cQ) t sz [aI cI a_p0 n_p0 v_p0])) (cQi (dC, dI) (va_A [aI cI a_p0 n_p0 v_p0] sz) o [aI cI a_p0 n_p0 v_p0]) 0 0 (va_A [aI cI a_p0 n_p0 v_p0] sz) := by
  refine Met.ofW (cc := cX10_knownMany) (maxL := 3) (ret := (some .int)) (by decide) rfl ?_
  intro p e s m args below meth c s₁ B hml hv
  obtain ⟨rfl, hsz, hP, hK, hD0, hG⟩ := hv
  have hx := B.exec
  have hb := B.bytes
  have hr := B.returns
  have hts := atoms_spec (ws := wsX10_knownMany) B.pre
  have hown : s.vm.findClass RX10 = some m.cls := findClass_of_methodNamed B.named
  have hlocks := B.notSynchronized
  subst hsz
  have hD := hD0.self (sz := s.heap.size)
  generalize hAe : va_A [aI cI a_p0 n_p0 v_p0] s.heap.size = A at hD hG ⊢
  have hA : ∀ q : Nat, s.heap.size ≤ q → A q := fun q h => by rw [← hAe]; exact Or.inr h
  have hS : va_S A s.heap s.heap [] := va_S.rf
  have hl := lv_entry ([.ref a_p0]) (n := 3) (Nat.le_of_ble_eq_true rfl)
  rw [lg_entry_eq]
  generalize (lg_sl ([.ref a_p0]) ++ List.replicate (3 - (lg_sl ([.ref a_p0])).length) Slot.unset).toArray = ls at hl ⊢
  have hl : lv_has ls 3 [(0, .ref a_p0)] := hl
  refine kb_gen (fun Q hQ => ?_)
  unfold m_X10_knownMany at hm
  refine lv_iconst (v := (0 : Int32)) hx hb dX10_knownMany_0 (by decide) ?_
  refine lv_istore_n (lv' := [(1, .int (0 : Int32)), (0, .ref a_p0)]) hx hb dX10_knownMany_1 rfl hl (by decide) rfl (fun ls hl => ?_)
  refine lv_iconst (v := (0 : Int32)) hx hb dX10_knownMany_2 (by decide) ?_
  refine lv_istore_n (lv' := [(2, .int (0 : Int32)), (1, .int (0 : Int32)), (0, .ref a_p0)]) hx hb dX10_knownMany_3 rfl hl (by decide) rfl (fun ls hl => ?_)
  have lp4 : ∀ (n4 : Nat) (x1 : Int32) (x2 : Int32) (k4 : Int32 → Option (Int32)) (H : Heap) (locs : List Loc) (ls : Array Slot), L_X10_knownMany_4 v_p0 n_p0 n4 x1 x2 k4 = some o → (∀ (x3 : Int32) (H : Heap) (locs : List Loc) (ls : Array Slot), k4 x3 = some o → va_P (dC, dI) vwCl [aI cI a_p0 n_p0 v_p0] H → va_S A s.heap H locs → lv_has ls 3 [(1, .int x3)] → W p l e (headSpec wsX10_knownMany { frames := 1, cells := 0, slots := 0, locals := 22 }).room s m [.ref a_p0].toArray below meth c H locs 0 0 Q (F0 m 25 ls [])) → va_P (dC, dI) vwCl [aI cI a_p0 n_p0 v_p0] H → va_S A s.heap H locs → lv_has ls 3 [(0, .ref a_p0), (1, .int x1), (2, .int x2)] → W p l e (headSpec wsX10_knownMany { frames := 1, cells := 0, slots := 0, locals := 22 }).room s m [.ref a_p0].toArray below meth c H locs 0 0 Q (F0 m 4 ls []) := by
    intro n4
    induction n4 with
    | zero =>
      intro x1 x2 k4 H locs ls hm
      cases (show (none : Option (Int32)) = some o from hm)
    | succ n4 ih4 =>
      intro x1 x2 k4 H locs ls hm hk4 hP hS hl
      rw [L_X10_knownMany_4.eq_2] at hm
      refine lv_iload_n hx hb dX10_knownMany_4 rfl (lv_at hl 2 rfl) ?_
      refine lv_bipush (v := (7 : Int32)) hx hb dX10_knownMany_5 (by decide) ?_
      refine lv_icmp_ge (tgt := 25) hx hb dX10_knownMany_7 (by decide) (fun c4 => ?_) (fun c4 => ?_)
      · replace hm := ite_t c4 hm
        exact hk4 x1 _ _ _ hm hP hS (lv_sub hl [1] rfl)
      · replace hm := ite_f c4 hm
        refine lv_iload_n hx hb dX10_knownMany_10 rfl (lv_at hl 1 rfl) ?_
        refine lv_aload_n hx hb dX10_knownMany_11 rfl (lv_at hl 0 rfl) ?_
        refine lv_iload_n hx hb dX10_knownMany_12 rfl (lv_at hl 2 rfl) ?_
        obtain ⟨h5, hm⟩ := gd_s hm
        refine va_iald hx hb hK hP 0 0 rfl rfl (inB_s h5) dX10_knownMany_13 ?_
        obtain ⟨r6, ho7, hm⟩ := bd1_s hm
        refine kb_calli (Rv := r6) (va_runS (As := [.int (v_p0 (Int32.toNatClampNeg x2))]) (rest := [.int x1]) ⟨hx, hb, hml, hown, hts⟩ (c_X10_many l dC dI cI cJ cZ cQ t H.size (v_p0 (Int32.toNatClampNeg x2)) (r6) ho7) (va_cwS 1 hts gX10_knownMany_X10_many rfl rfl rfl (by decide +kernel) ⟨(Nat.le_of_ble_eq_true rfl), (Nat.le_of_ble_eq_true rfl)⟩) (kb_pre hK hG hP (kb_D hD rfl) hS hA [] rfl (by decide)) rfl rfl hl.1 rfl (lv_room (Nat.le_of_ble_eq_true rfl)) dX10_knownMany_14 ⟨Nat.zero_le _, Nat.zero_le _⟩) hP (kb_D hD rfl) hS hA [] rfl [(false, 0)] (w2 := [aI cI a_p0 n_p0 v_p0]) rfl (by decide) (fun H locs hP hS => ?_)
        refine lv_iadd hx hb dX10_knownMany_17 ?_
        refine lv_topi (fun x8 ex8 => ?_)
        replace hm := nm_t ex8 hm
        refine lv_istore_n (lv' := [(1, .int x8), (0, .ref a_p0), (2, .int x2)]) hx hb dX10_knownMany_18 rfl hl (by decide) rfl (fun ls hl => ?_)
        obtain ⟨x9, ex9⟩ : ∃ y : Int32, y = x2 + (1 : Int32) := ⟨_, rfl⟩
        replace hm := nm_t ex9 hm
        refine lv_iinc (v := x9) (lv' := [(2, .int x9), (1, .int x8), (0, .ref a_p0)]) hx hb dX10_knownMany_19 hl (k := 2) rfl (by rw [ex9]; rfl) (by decide) rfl (fun ls hl => ?_)
        refine lv_goto (tgt := 4) hx hb dX10_knownMany_22 (by decide) ?_
        exact ih4 x8 x9 k4 _ _ _ hm hk4 hP hS (lv_sub hl [2, 1, 0] rfl)
  refine lp4 1024 (0 : Int32) (0 : Int32) _ _ _ _ hm (fun x3 H locs ls hm hP hS hl => ?_) hP hS (lv_sub hl [2, 1, 0] rfl)
  refine lv_iload_n hx hb dX10_knownMany_25 rfl (lv_at hl 0 rfl) ?_
  obtain rfl := Option.some.inj hm
  subst hQ
  exact W.iret hx hb hr (fun t ht hW => ⟨⟨_, (), rfl, rfl, kb_h hP ht⟩, hS.F ht⟩) hS.2.2 dX10_knownMany_26
set_option maxHeartbeats 4000000 in
set_option maxRecDepth 100000 in
theorem c_X10_about (l : Launch) (dC : Nat → ClassId) (dI : Nat → Nat → Nat) (cI cJ cZ cQ : ClassId) (t sz : Nat) (a_th : Nat) (a_page : Nat) (q_text : Value) (q_question : Value) (q_book : Value) (q_bookSeed : Value) (q_kept : Value) (q_isKept : Value) (q_toldSimple : Value) (q_toldDay : Value) (q_toldYes : Value) (q_yesOf : Value) (q_noOf : Value) (q_factOf : Value) (q_stack : Value) (q_one : Value) (q_two : Value) (q_three : Value) (v_thrown : Int32) (v_textSize : Int32) (v_place : Int32) (v_questionSize : Int32) (v_facts : Int32) (v_isSo : Int32) (v_common : Int32) (v_readFacts : Int32) (v_readSo : Int32) (v_readCommon : Int32) (v_readDay : Int32) (v_seed : Int64) (v_acts : Int32) (v_told : Int32) (v_page : (Nat → Int32)) (p_1 : Int32) (o : Int32 × Int32) (hm : m_X10_about p_1 v_thrown v_textSize v_questionSize v_facts v_acts v_told v_page = some o) : Met l yX10_about wsX10_about { frames := 2, cells := 0, slots := 0, locals := 44 } (va_Pc [.ref a_th, .int p_1] (cP (dC, dI) (kT cI cJ cZ cQ) t sz [oX10 a_th (.int v_thrown) q_text (.int v_textSize) (.int v_place) q_question (.int v_questionSize) (.int v_facts) (.int v_isSo) (.int v_common) (.int v_readFacts) (.int v_readSo) (.int v_readCommon) (.int v_readDay) (.ref a_page) (.long v_seed) q_book q_bookSeed (.int v_acts) q_kept q_isKept (.int v_told) q_toldSimple q_toldDay q_toldYes q_yesOf q_noOf q_factOf q_stack q_one q_two q_three, aI cI a_page 12 v_page])) (cQi (dC, dI) (va_A [oX10 a_th (.int v_thrown) q_text (.int v_textSize) (.int v_place) q_question (.int v_questionSize) (.int v_facts) (.int v_isSo) (.int v_common) (.int v_readFacts) (.int v_readSo) (.int v_readCommon) (.int v_readDay) (.ref a_page) (.long v_seed) q_book q_bookSeed (.int v_acts) q_kept q_isKept (.int v_told) q_toldSimple q_toldDay q_toldYes q_yesOf q_noOf q_factOf q_stack q_one q_two q_three, aI cI a_page 12 v_page] sz) o.1 [oX10 a_th (.int (o.2)) q_text (.int v_textSize) (.int v_place) q_question (.int v_questionSize) (.int v_facts) (.int v_isSo) (.int v_common) (.int v_readFacts) (.int v_readSo) (.int v_readCommon) (.int v_readDay) (.ref a_page) (.long v_seed) q_book q_bookSeed (.int v_acts) q_kept q_isKept (.int v_told) q_toldSimple q_toldDay q_toldYes q_yesOf q_noOf q_factOf q_stack q_one q_two q_three, aI cI a_page 12 v_page]) 0 0 (va_A [oX10 a_th (.int v_thrown) q_text (.int v_textSize) (.int v_place) q_question (.int v_questionSize) (.int v_facts) (.int v_isSo) (.int v_common) (.int v_readFacts) (.int v_readSo) (.int v_readCommon) (.int v_readDay) (.ref a_page) (.long v_seed) q_book q_bookSeed (.int v_acts) q_kept q_isKept (.int v_told) q_toldSimple q_toldDay q_toldYes q_yesOf q_noOf q_factOf q_stack q_one q_two q_three, aI cI a_page 12 v_page] sz) := by
  refine Met.ofW (cc := cX10_about) (maxL := 2) (ret := (some .int)) (by decide) rfl ?_
  intro p e s m args below meth c s₁ B hml hv
  obtain ⟨rfl, hsz, hP, hK, hD0, hG⟩ := hv
  have hx := B.exec
  have hb := B.bytes
  have hr := B.returns
  have hts := atoms_spec (ws := wsX10_about) B.pre
  have hown : s.vm.findClass RX10 = some m.cls := findClass_of_methodNamed B.named
  have hlocks := B.notSynchronized
  subst hsz
  have hD := hD0.self (sz := s.heap.size)
  generalize hAe : va_A [oX10 a_th (.int v_thrown) q_text (.int v_textSize) (.int v_place) q_question (.int v_questionSize) (.int v_facts) (.int v_isSo) (.int v_common) (.int v_readFacts) (.int v_readSo) (.int v_readCommon) (.int v_readDay) (.ref a_page) (.long v_seed) q_book q_bookSeed (.int v_acts) q_kept q_isKept (.int v_told) q_toldSimple q_toldDay q_toldYes q_yesOf q_noOf q_factOf q_stack q_one q_two q_three, aI cI a_page 12 v_page] s.heap.size = A at hD hG ⊢
  have hA : ∀ q : Nat, s.heap.size ≤ q → A q := fun q h => by rw [← hAe]; exact Or.inr h
  have hS : va_S A s.heap s.heap [] := va_S.rf
  have hl := lv_entry ([.ref a_th, .int p_1]) (n := 2) (Nat.le_of_ble_eq_true rfl)
  rw [lg_entry_eq]
  generalize (lg_sl ([.ref a_th, .int p_1]) ++ List.replicate (2 - (lg_sl ([.ref a_th, .int p_1])).length) Slot.unset).toArray = ls at hl ⊢
  have hl : lv_has ls 2 [(0, .ref a_th), (1, .int p_1)] := hl
  have iX10 : ∀ w ∈ wsX100, w ∈ wsX10_about := fun _ h => List.mem_cons_of_mem _ (List.mem_append_right _ h)
  have f66 := hts (.fieldLink RX10 66 "TrueOnceWeekModel" "thrown" "I") (by decide +kernel)
  have f102 := hts (.fieldLink RX10 102 "TrueOnceWeekModel" "facts" "I") (by decide +kernel)
  have f16 := hts (.fieldLink RX10 16 "TrueOnceWeekModel" "page" "[I") (by decide +kernel)
  have f114 := hts (.fieldLink RX10 114 "TrueOnceWeekModel" "acts" "I") (by decide +kernel)
  have f136 := hts (.fieldLink RX10 136 "TrueOnceWeekModel" "told" "I") (by decide +kernel)
  have f76 := hts (.fieldLink RX10 76 "TrueOnceWeekModel" "textSize" "I") (by decide +kernel)
  have f117 := hts (.fieldLink RX10 117 "TrueOnceWeekModel" "questionSize" "I") (by decide +kernel)
  refine kb_gen (fun Q hQ => ?_)
  unfold m_X10_about at hm
  refine lv_aload_n hx hb dX10_about_0 rfl (lv_at hl 0 rfl) ?_
  refine lv_iconst (v := (0 : Int32)) hx hb dX10_about_1 (by decide) ?_
  refine va_put (D := (dC, dI)) (ci := 8) (v := .int (0 : Int32)) (ty := .int) (C := RX10) (T := TX10) (N := 31) hx hb hts iX10 tyX10 tyX10_ok nmX10 hown hK hP (kb_D hD rfl) hS 0 rfl rfl 0 (by decide) f66 (fun _ h9 => h9) rfl (by decide +kernel) rfl rfl (Nat.le_of_ble_eq_true rfl) dX10_about_2 (fun H locs hP _ hS => ?_)
  have hP : va_P (dC, dI) vwCl [oX10 a_th (.int (0 : Int32)) q_text (.int v_textSize) (.int v_place) q_question (.int v_questionSize) (.int v_facts) (.int v_isSo) (.int v_common) (.int v_readFacts) (.int v_readSo) (.int v_readCommon) (.int v_readDay) (.ref a_page) (.long v_seed) q_book q_bookSeed (.int v_acts) q_kept q_isKept (.int v_told) q_toldSimple q_toldDay q_toldYes q_yesOf q_noOf q_factOf q_stack q_one q_two q_three, aI cI a_page 12 v_page] H := hP
  refine lv_iload_n hx hb dX10_about_5 rfl (lv_at hl 1 rfl) ?_
  rcases Decidable.em (p_1 = (0 : Int32)) with c1 | c1
  · replace hm := ite_t c1 hm
    refine lv_tableIn (tgt := 68) hx hb dX10_about_6 (by rw [c1]; decide) (by rw [c1]; decide) (by rw [c1]; rfl) (by decide) ?_
    refine lv_aload_n hx hb dX10_about_68 rfl (lv_at hl 0 rfl) ?_
    refine va_get (D := (dC, dI)) (ci := 8) (v := .int v_facts) (C := RX10) (T := TX10) (N := 31) hx hb hts iX10 hown hK hP 0 rfl rfl 6 (by decide) f102 (fun _ h9 => h9) rfl dX10_about_69 ?_
    obtain rfl := Option.some.inj hm
    subst hQ
    exact W.iret hx hb hr (fun t ht hW => ⟨⟨_, (), rfl, rfl, kb_h hP ht⟩, hS.F ht⟩) hS.2.2 dX10_about_72
  replace hm := ite_f c1 hm
  rcases Decidable.em (p_1 = (1 : Int32)) with c2 | c2
  · replace hm := ite_t c2 hm
    refine lv_tableIn (tgt := 73) hx hb dX10_about_6 (by rw [c2]; decide) (by rw [c2]; decide) (by rw [c2]; rfl) (by decide) ?_
    refine lv_aload_n hx hb dX10_about_73 rfl (lv_at hl 0 rfl) ?_
    refine va_get (D := (dC, dI)) (ci := 8) (v := .ref a_page) (C := RX10) (T := TX10) (N := 31) hx hb hts iX10 hown hK hP 0 rfl rfl 13 (by decide) f16 (fun _ h9 => h9) rfl dX10_about_74 ?_
    refine lv_bipush (v := (7 : Int32)) hx hb dX10_about_77 (by decide) ?_
    refine va_iald hx hb hK hP 1 0 rfl rfl (inB_s (by decide)) dX10_about_79 ?_
    obtain rfl := Option.some.inj hm
    subst hQ
    exact W.iret hx hb hr (fun t ht hW => ⟨⟨_, (), rfl, rfl, kb_h hP ht⟩, hS.F ht⟩) hS.2.2 dX10_about_80
  replace hm := ite_f c2 hm
  rcases Decidable.em (p_1 = (2 : Int32)) with c3 | c3
  · replace hm := ite_t c3 hm
    refine lv_tableIn (tgt := 81) hx hb dX10_about_6 (by rw [c3]; decide) (by rw [c3]; decide) (by rw [c3]; rfl) (by decide) ?_
    refine lv_aload_n hx hb dX10_about_81 rfl (lv_at hl 0 rfl) ?_
    refine va_get (D := (dC, dI)) (ci := 8) (v := .ref a_page) (C := RX10) (T := TX10) (N := 31) hx hb hts iX10 hown hK hP 0 rfl rfl 13 (by decide) f16 (fun _ h9 => h9) rfl dX10_about_82 ?_
    obtain ⟨r4, ho5, hm⟩ := bd1_s hm
    refine kb_calli (Rv := r4) (va_runS (As := [.ref a_page]) (rest := []) ⟨hx, hb, hml, hown, hts⟩ (c_X10_knownMany l dC dI cI cJ cZ cQ t H.size a_page 12 v_page (r4) ho5) (va_cwS 1 hts gX10_about_X10_knownMany rfl rfl rfl (by decide +kernel) ⟨(Nat.le_of_ble_eq_true rfl), (Nat.le_of_ble_eq_true rfl)⟩) (kb_pre hK hG hP (kb_D hD rfl) hS hA [1] rfl (by decide)) rfl rfl hl.1 rfl (lv_room (Nat.le_of_ble_eq_true rfl)) dX10_about_85 ⟨Nat.zero_le _, Nat.zero_le _⟩) hP (kb_D hD rfl) hS hA [1] rfl [(false, 0), (true, 0)] (w2 := [oX10 a_th (.int (0 : Int32)) q_text (.int v_textSize) (.int v_place) q_question (.int v_questionSize) (.int v_facts) (.int v_isSo) (.int v_common) (.int v_readFacts) (.int v_readSo) (.int v_readCommon) (.int v_readDay) (.ref a_page) (.long v_seed) q_book q_bookSeed (.int v_acts) q_kept q_isKept (.int v_told) q_toldSimple q_toldDay q_toldYes q_yesOf q_noOf q_factOf q_stack q_one q_two q_three, aI cI a_page 12 v_page]) rfl (by decide) (fun H locs hP hS => ?_)
    obtain rfl := Option.some.inj hm
    subst hQ
    exact W.iret hx hb hr (fun t ht hW => ⟨⟨_, (), rfl, rfl, kb_h hP ht⟩, hS.F ht⟩) hS.2.2 dX10_about_88
  replace hm := ite_f c3 hm
  rcases Decidable.em (p_1 = (3 : Int32)) with c6 | c6
  · replace hm := ite_t c6 hm
    refine lv_tableIn (tgt := 89) hx hb dX10_about_6 (by rw [c6]; decide) (by rw [c6]; decide) (by rw [c6]; rfl) (by decide) ?_
    refine lv_aload_n hx hb dX10_about_89 rfl (lv_at hl 0 rfl) ?_
    refine va_get (D := (dC, dI)) (ci := 8) (v := .ref a_page) (C := RX10) (T := TX10) (N := 31) hx hb hts iX10 hown hK hP 0 rfl rfl 13 (by decide) f16 (fun _ h9 => h9) rfl dX10_about_90 ?_
    refine lv_bipush (v := (9 : Int32)) hx hb dX10_about_93 (by decide) ?_
    refine va_iald hx hb hK hP 1 0 rfl rfl (inB_s (by decide)) dX10_about_95 ?_
    obtain rfl := Option.some.inj hm
    subst hQ
    exact W.iret hx hb hr (fun t ht hW => ⟨⟨_, (), rfl, rfl, kb_h hP ht⟩, hS.F ht⟩) hS.2.2 dX10_about_96
  replace hm := ite_f c6 hm
  rcases Decidable.em (p_1 = (4 : Int32)) with c7 | c7
  · replace hm := ite_t c7 hm
    refine lv_tableIn (tgt := 97) hx hb dX10_about_6 (by rw [c7]; decide) (by rw [c7]; decide) (by rw [c7]; rfl) (by decide) ?_
    refine lv_aload_n hx hb dX10_about_97 rfl (lv_at hl 0 rfl) ?_
    refine va_get (D := (dC, dI)) (ci := 8) (v := .ref a_page) (C := RX10) (T := TX10) (N := 31) hx hb hts iX10 hown hK hP 0 rfl rfl 13 (by decide) f16 (fun _ h9 => h9) rfl dX10_about_98 ?_
    refine lv_bipush (v := (10 : Int32)) hx hb dX10_about_101 (by decide) ?_
    refine va_iald hx hb hK hP 1 0 rfl rfl (inB_s (by decide)) dX10_about_103 ?_
    obtain rfl := Option.some.inj hm
    subst hQ
    exact W.iret hx hb hr (fun t ht hW => ⟨⟨_, (), rfl, rfl, kb_h hP ht⟩, hS.F ht⟩) hS.2.2 dX10_about_104
  replace hm := ite_f c7 hm
  rcases Decidable.em (p_1 = (5 : Int32)) with c8 | c8
  · replace hm := ite_t c8 hm
    refine lv_tableIn (tgt := 105) hx hb dX10_about_6 (by rw [c8]; decide) (by rw [c8]; decide) (by rw [c8]; rfl) (by decide) ?_
    refine lv_aload_n hx hb dX10_about_105 rfl (lv_at hl 0 rfl) ?_
    refine va_get (D := (dC, dI)) (ci := 8) (v := .ref a_page) (C := RX10) (T := TX10) (N := 31) hx hb hts iX10 hown hK hP 0 rfl rfl 13 (by decide) f16 (fun _ h9 => h9) rfl dX10_about_106 ?_
    refine lv_bipush (v := (11 : Int32)) hx hb dX10_about_109 (by decide) ?_
    refine va_iald hx hb hK hP 1 0 rfl rfl (inB_s (by decide)) dX10_about_111 ?_
    obtain rfl := Option.some.inj hm
    subst hQ
    exact W.iret hx hb hr (fun t ht hW => ⟨⟨_, (), rfl, rfl, kb_h hP ht⟩, hS.F ht⟩) hS.2.2 dX10_about_112
  replace hm := ite_f c8 hm
  rcases Decidable.em (p_1 = (6 : Int32)) with c9 | c9
  · replace hm := ite_t c9 hm
    refine lv_tableIn (tgt := 113) hx hb dX10_about_6 (by rw [c9]; decide) (by rw [c9]; decide) (by rw [c9]; rfl) (by decide) ?_
    refine lv_aload_n hx hb dX10_about_113 rfl (lv_at hl 0 rfl) ?_
    refine va_get (D := (dC, dI)) (ci := 8) (v := .int v_acts) (C := RX10) (T := TX10) (N := 31) hx hb hts iX10 hown hK hP 0 rfl rfl 17 (by decide) f114 (fun _ h9 => h9) rfl dX10_about_114 ?_
    obtain rfl := Option.some.inj hm
    subst hQ
    exact W.iret hx hb hr (fun t ht hW => ⟨⟨_, (), rfl, rfl, kb_h hP ht⟩, hS.F ht⟩) hS.2.2 dX10_about_117
  replace hm := ite_f c9 hm
  rcases Decidable.em (p_1 = (7 : Int32)) with c10 | c10
  · replace hm := ite_t c10 hm
    refine lv_tableIn (tgt := 118) hx hb dX10_about_6 (by rw [c10]; decide) (by rw [c10]; decide) (by rw [c10]; rfl) (by decide) ?_
    refine lv_aload_n hx hb dX10_about_118 rfl (lv_at hl 0 rfl) ?_
    refine va_get (D := (dC, dI)) (ci := 8) (v := .int v_told) (C := RX10) (T := TX10) (N := 31) hx hb hts iX10 hown hK hP 0 rfl rfl 20 (by decide) f136 (fun _ h9 => h9) rfl dX10_about_119 ?_
    obtain rfl := Option.some.inj hm
    subst hQ
    exact W.iret hx hb hr (fun t ht hW => ⟨⟨_, (), rfl, rfl, kb_h hP ht⟩, hS.F ht⟩) hS.2.2 dX10_about_122
  replace hm := ite_f c10 hm
  rcases Decidable.em (p_1 = (8 : Int32)) with c11 | c11
  · replace hm := ite_t c11 hm
    refine lv_tableIn (tgt := 123) hx hb dX10_about_6 (by rw [c11]; decide) (by rw [c11]; decide) (by rw [c11]; rfl) (by decide) ?_
    refine lv_aload_n hx hb dX10_about_123 rfl (lv_at hl 0 rfl) ?_
    refine va_get (D := (dC, dI)) (ci := 8) (v := .int v_textSize) (C := RX10) (T := TX10) (N := 31) hx hb hts iX10 hown hK hP 0 rfl rfl 2 (by decide) f76 (fun _ h9 => h9) rfl dX10_about_124 ?_
    obtain rfl := Option.some.inj hm
    subst hQ
    exact W.iret hx hb hr (fun t ht hW => ⟨⟨_, (), rfl, rfl, kb_h hP ht⟩, hS.F ht⟩) hS.2.2 dX10_about_127
  replace hm := ite_f c11 hm
  rcases Decidable.em (p_1 = (9 : Int32)) with c12 | c12
  · replace hm := ite_t c12 hm
    refine lv_tableIn (tgt := 128) hx hb dX10_about_6 (by rw [c12]; decide) (by rw [c12]; decide) (by rw [c12]; rfl) (by decide) ?_
    refine lv_aload_n hx hb dX10_about_128 rfl (lv_at hl 0 rfl) ?_
    refine va_get (D := (dC, dI)) (ci := 8) (v := .int v_questionSize) (C := RX10) (T := TX10) (N := 31) hx hb hts iX10 hown hK hP 0 rfl rfl 5 (by decide) f117 (fun _ h9 => h9) rfl dX10_about_129 ?_
    obtain rfl := Option.some.inj hm
    subst hQ
    exact W.iret hx hb hr (fun t ht hW => ⟨⟨_, (), rfl, rfl, kb_h hP ht⟩, hS.F ht⟩) hS.2.2 dX10_about_132
  replace hm := ite_f c12 hm
  rcases Decidable.em (p_1 = (10 : Int32)) with c13 | c13
  · replace hm := ite_t c13 hm
    refine lv_tableIn (tgt := 133) hx hb dX10_about_6 (by rw [c13]; decide) (by rw [c13]; decide) (by rw [c13]; rfl) (by decide) ?_
    refine lv_aload_n hx hb dX10_about_133 rfl (lv_at hl 0 rfl) ?_
    refine va_get (D := (dC, dI)) (ci := 8) (v := .ref a_page) (C := RX10) (T := TX10) (N := 31) hx hb hts iX10 hown hK hP 0 rfl rfl 13 (by decide) f16 (fun _ h9 => h9) rfl dX10_about_134 ?_
    obtain ⟨r14, ho15, hm⟩ := bd1_s hm
    refine kb_calli (Rv := r14) (va_runS (As := [.ref a_page]) (rest := []) ⟨hx, hb, hml, hown, hts⟩ (c_X10_daysOf l dC dI cI cJ cZ cQ t H.size a_page 12 v_page (r14) ho15) (va_cwS 1 hts gX10_about_X10_daysOf rfl rfl rfl (by decide +kernel) ⟨(Nat.le_of_ble_eq_true rfl), (Nat.le_of_ble_eq_true rfl)⟩) (kb_pre hK hG hP (kb_D hD rfl) hS hA [1] rfl (by decide)) rfl rfl hl.1 rfl (lv_room (Nat.le_of_ble_eq_true rfl)) dX10_about_137 ⟨Nat.zero_le _, Nat.zero_le _⟩) hP (kb_D hD rfl) hS hA [1] rfl [(false, 0), (true, 0)] (w2 := [oX10 a_th (.int (0 : Int32)) q_text (.int v_textSize) (.int v_place) q_question (.int v_questionSize) (.int v_facts) (.int v_isSo) (.int v_common) (.int v_readFacts) (.int v_readSo) (.int v_readCommon) (.int v_readDay) (.ref a_page) (.long v_seed) q_book q_bookSeed (.int v_acts) q_kept q_isKept (.int v_told) q_toldSimple q_toldDay q_toldYes q_yesOf q_noOf q_factOf q_stack q_one q_two q_three, aI cI a_page 12 v_page]) rfl (by decide) (fun H locs hP hS => ?_)
    obtain rfl := Option.some.inj hm
    subst hQ
    exact W.iret hx hb hr (fun t ht hW => ⟨⟨_, (), rfl, rfl, kb_h hP ht⟩, hS.F ht⟩) hS.2.2 dX10_about_140
  replace hm := ite_f c13 hm
  rcases Decidable.em (p_1 = (11 : Int32)) with c16 | c16
  · replace hm := ite_t c16 hm
    refine lv_tableIn (tgt := 141) hx hb dX10_about_6 (by rw [c16]; decide) (by rw [c16]; decide) (by rw [c16]; rfl) (by decide) ?_
    refine lv_aload_n hx hb dX10_about_141 rfl (lv_at hl 0 rfl) ?_
    refine va_get (D := (dC, dI)) (ci := 8) (v := .ref a_page) (C := RX10) (T := TX10) (N := 31) hx hb hts iX10 hown hK hP 0 rfl rfl 13 (by decide) f16 (fun _ h9 => h9) rfl dX10_about_142 ?_
    refine lv_bipush (v := (8 : Int32)) hx hb dX10_about_145 (by decide) ?_
    refine va_iald hx hb hK hP 1 0 rfl rfl (inB_s (by decide)) dX10_about_147 ?_
    obtain rfl := Option.some.inj hm
    subst hQ
    exact W.iret hx hb hr (fun t ht hW => ⟨⟨_, (), rfl, rfl, kb_h hP ht⟩, hS.F ht⟩) hS.2.2 dX10_about_148
  replace hm := ite_f c16 hm
  have tc1 := lv_neT (a := 0) c1 (by decide)
  have tc2 := lv_neT (a := 1) c2 (by decide)
  have tc3 := lv_neT (a := 2) c3 (by decide)
  have tc6 := lv_neT (a := 3) c6 (by decide)
  have tc7 := lv_neT (a := 4) c7 (by decide)
  have tc8 := lv_neT (a := 5) c8 (by decide)
  have tc9 := lv_neT (a := 6) c9 (by decide)
  have tc10 := lv_neT (a := 7) c10 (by decide)
  have tc11 := lv_neT (a := 8) c11 (by decide)
  have tc12 := lv_neT (a := 9) c12 (by decide)
  have tc13 := lv_neT (a := 10) c13 (by decide)
  have tc16 := lv_neT (a := 11) c16 (by decide)
  refine lv_tableOut (tgt := 149) hx hb dX10_about_6 (by omega) (by decide) ?_
  refine lv_bipush (v := (-2 : Int32)) hx hb dX10_about_149 (by decide) ?_
  obtain rfl := Option.some.inj hm
  subst hQ
  exact W.iret hx hb hr (fun t ht hW => ⟨⟨_, (), rfl, rfl, kb_h hP ht⟩, hS.F ht⟩) hS.2.2 dX10_about_151
set_option maxHeartbeats 4000000 in
set_option maxRecDepth 100000 in
theorem c_X10_tellsFact (l : Launch) (dC : Nat → ClassId) (dI : Nat → Nat → Nat) (cI cJ cZ cQ : ClassId) (t sz : Nat) (a_th : Nat) (a_p1 : Nat) (a_factOf : Nat) (n_p1 : Nat) (q_text : Value) (q_question : Value) (q_page : Value) (q_book : Value) (q_bookSeed : Value) (q_kept : Value) (q_isKept : Value) (q_toldSimple : Value) (q_toldDay : Value) (q_toldYes : Value) (q_yesOf : Value) (q_noOf : Value) (q_stack : Value) (q_one : Value) (q_two : Value) (q_three : Value) (v_thrown : Int32) (v_textSize : Int32) (v_place : Int32) (v_questionSize : Int32) (v_facts : Int32) (v_isSo : Int32) (v_common : Int32) (v_readFacts : Int32) (v_readSo : Int32) (v_readCommon : Int32) (v_readDay : Int32) (v_seed : Int64) (v_acts : Int32) (v_told : Int32) (v_p1 : (Nat → Int32)) (v_factOf : (Nat → Int32)) (p_2 : Int32) (o : Int32) (hm : m_X10_tellsFact p_2 n_p1 v_p1 v_factOf = some o) : Met l yX10_tellsFact wsX10_tellsFact { frames := 0, cells := 0, slots := 0, locals := 0 } (va_Pc [.ref a_th, .ref a_p1, .int p_2] (cP (dC, dI) (kT cI cJ cZ cQ) t sz [oX10 a_th (.int v_thrown) q_text (.int v_textSize) (.int v_place) q_question (.int v_questionSize) (.int v_facts) (.int v_isSo) (.int v_common) (.int v_readFacts) (.int v_readSo) (.int v_readCommon) (.int v_readDay) q_page (.long v_seed) q_book q_bookSeed (.int v_acts) q_kept q_isKept (.int v_told) q_toldSimple q_toldDay q_toldYes q_yesOf q_noOf (.ref a_factOf) q_stack q_one q_two q_three, aI cI a_p1 n_p1 v_p1, aI cI a_factOf 5 v_factOf])) (cQi (dC, dI) (va_A [oX10 a_th (.int v_thrown) q_text (.int v_textSize) (.int v_place) q_question (.int v_questionSize) (.int v_facts) (.int v_isSo) (.int v_common) (.int v_readFacts) (.int v_readSo) (.int v_readCommon) (.int v_readDay) q_page (.long v_seed) q_book q_bookSeed (.int v_acts) q_kept q_isKept (.int v_told) q_toldSimple q_toldDay q_toldYes q_yesOf q_noOf (.ref a_factOf) q_stack q_one q_two q_three, aI cI a_p1 n_p1 v_p1, aI cI a_factOf 5 v_factOf] sz) o [oX10 a_th (.int v_thrown) q_text (.int v_textSize) (.int v_place) q_question (.int v_questionSize) (.int v_facts) (.int v_isSo) (.int v_common) (.int v_readFacts) (.int v_readSo) (.int v_readCommon) (.int v_readDay) q_page (.long v_seed) q_book q_bookSeed (.int v_acts) q_kept q_isKept (.int v_told) q_toldSimple q_toldDay q_toldYes q_yesOf q_noOf (.ref a_factOf) q_stack q_one q_two q_three, aI cI a_p1 n_p1 v_p1, aI cI a_factOf 5 v_factOf]) 0 0 (va_A [oX10 a_th (.int v_thrown) q_text (.int v_textSize) (.int v_place) q_question (.int v_questionSize) (.int v_facts) (.int v_isSo) (.int v_common) (.int v_readFacts) (.int v_readSo) (.int v_readCommon) (.int v_readDay) q_page (.long v_seed) q_book q_bookSeed (.int v_acts) q_kept q_isKept (.int v_told) q_toldSimple q_toldDay q_toldYes q_yesOf q_noOf (.ref a_factOf) q_stack q_one q_two q_three, aI cI a_p1 n_p1 v_p1, aI cI a_factOf 5 v_factOf] sz) := by
  refine Met.ofW (cc := cX10_tellsFact) (maxL := 6) (ret := (some .int)) (by decide) rfl ?_
  intro p e s m args below meth c s₁ B hml hv
  obtain ⟨rfl, hsz, hP, hK, hD0, hG⟩ := hv
  have hx := B.exec
  have hb := B.bytes
  have hr := B.returns
  have hts := atoms_spec (ws := wsX10_tellsFact) B.pre
  have hown : s.vm.findClass RX10 = some m.cls := findClass_of_methodNamed B.named
  have hlocks := B.notSynchronized
  subst hsz
  have hD := hD0.self (sz := s.heap.size)
  generalize hAe : va_A [oX10 a_th (.int v_thrown) q_text (.int v_textSize) (.int v_place) q_question (.int v_questionSize) (.int v_facts) (.int v_isSo) (.int v_common) (.int v_readFacts) (.int v_readSo) (.int v_readCommon) (.int v_readDay) q_page (.long v_seed) q_book q_bookSeed (.int v_acts) q_kept q_isKept (.int v_told) q_toldSimple q_toldDay q_toldYes q_yesOf q_noOf (.ref a_factOf) q_stack q_one q_two q_three, aI cI a_p1 n_p1 v_p1, aI cI a_factOf 5 v_factOf] s.heap.size = A at hD hG ⊢
  have hA : ∀ q : Nat, s.heap.size ≤ q → A q := fun q h => by rw [← hAe]; exact Or.inr h
  have hS : va_S A s.heap s.heap [] := va_S.rf
  have hl := lv_entry ([.ref a_th, .ref a_p1, .int p_2]) (n := 6) (Nat.le_of_ble_eq_true rfl)
  rw [lg_entry_eq]
  generalize (lg_sl ([.ref a_th, .ref a_p1, .int p_2]) ++ List.replicate (6 - (lg_sl ([.ref a_th, .ref a_p1, .int p_2])).length) Slot.unset).toArray = ls at hl ⊢
  have hl : lv_has ls 6 [(0, .ref a_th), (1, .ref a_p1), (2, .int p_2)] := hl
  have iX10 : ∀ w ∈ wsX100, w ∈ wsX10_tellsFact := fun _ h => List.mem_cons_of_mem _ (List.mem_append_right _ h)
  have f48 := hts (.fieldLink RX10 48 "TrueOnceWeekModel" "factOf" "[I") (by decide +kernel)
  refine kb_gen (fun Q hQ => ?_)
  unfold m_X10_tellsFact at hm
  refine lv_iconst (v := (0 : Int32)) hx hb dX10_tellsFact_0 (by decide) ?_
  refine lv_istore_n (lv' := [(3, .int (0 : Int32)), (0, .ref a_th), (1, .ref a_p1), (2, .int p_2)]) hx hb dX10_tellsFact_1 rfl hl (by decide) rfl (fun ls hl => ?_)
  refine lv_iconst (v := (0 : Int32)) hx hb dX10_tellsFact_2 (by decide) ?_
  refine lv_istore (lv' := [(4, .int (0 : Int32)), (3, .int (0 : Int32)), (0, .ref a_th), (1, .ref a_p1), (2, .int p_2)]) hx hb dX10_tellsFact_3 hl (by decide) rfl (fun ls hl => ?_)
  refine lv_iconst (v := (0 : Int32)) hx hb dX10_tellsFact_5 (by decide) ?_
  refine lv_istore (lv' := [(5, .int (0 : Int32)), (4, .int (0 : Int32)), (3, .int (0 : Int32)), (0, .ref a_th), (1, .ref a_p1), (2, .int p_2)]) hx hb dX10_tellsFact_6 hl (by decide) rfl (fun ls hl => ?_)
  have lp8 : ∀ (n8 : Nat) (x1 : Int32) (x2 : Int32) (x3 : Int32) (k8 : Int32 → Int32 → Option (Int32)) (H : Heap) (locs : List Loc) (ls : Array Slot), L_X10_tellsFact_8 v_p1 v_factOf p_2 n_p1 n8 x1 x2 x3 k8 = some o → (∀ (x4 : Int32) (x5 : Int32) (H : Heap) (locs : List Loc) (ls : Array Slot), k8 x4 x5 = some o → va_P (dC, dI) vwCl [oX10 a_th (.int v_thrown) q_text (.int v_textSize) (.int v_place) q_question (.int v_questionSize) (.int v_facts) (.int v_isSo) (.int v_common) (.int v_readFacts) (.int v_readSo) (.int v_readCommon) (.int v_readDay) q_page (.long v_seed) q_book q_bookSeed (.int v_acts) q_kept q_isKept (.int v_told) q_toldSimple q_toldDay q_toldYes q_yesOf q_noOf (.ref a_factOf) q_stack q_one q_two q_three, aI cI a_p1 n_p1 v_p1, aI cI a_factOf 5 v_factOf] H → va_S A s.heap H locs → lv_has ls 6 [(3, .int x4), (4, .int x5)] → W p l e (headSpec wsX10_tellsFact { frames := 0, cells := 0, slots := 0, locals := 0 }).room s m [.ref a_th, .ref a_p1, .int p_2].toArray below meth c H locs 0 0 Q (F0 m 73 ls [])) → va_P (dC, dI) vwCl [oX10 a_th (.int v_thrown) q_text (.int v_textSize) (.int v_place) q_question (.int v_questionSize) (.int v_facts) (.int v_isSo) (.int v_common) (.int v_readFacts) (.int v_readSo) (.int v_readCommon) (.int v_readDay) q_page (.long v_seed) q_book q_bookSeed (.int v_acts) q_kept q_isKept (.int v_told) q_toldSimple q_toldDay q_toldYes q_yesOf q_noOf (.ref a_factOf) q_stack q_one q_two q_three, aI cI a_p1 n_p1 v_p1, aI cI a_factOf 5 v_factOf] H → va_S A s.heap H locs → lv_has ls 6 [(0, .ref a_th), (1, .ref a_p1), (2, .int p_2), (3, .int x1), (4, .int x2), (5, .int x3)] → W p l e (headSpec wsX10_tellsFact { frames := 0, cells := 0, slots := 0, locals := 0 }).room s m [.ref a_th, .ref a_p1, .int p_2].toArray below meth c H locs 0 0 Q (F0 m 8 ls []) := by
    intro n8
    induction n8 with
    | zero =>
      intro x1 x2 x3 k8 H locs ls hm
      cases (show (none : Option (Int32)) = some o from hm)
    | succ n8 ih8 =>
      intro x1 x2 x3 k8 H locs ls hm hk8 hP hS hl
      rw [L_X10_tellsFact_8.eq_2] at hm
      refine lv_iload hx hb dX10_tellsFact_8 (lv_at hl 5 rfl) ?_
      refine lv_bipush (v := (7 : Int32)) hx hb dX10_tellsFact_10 (by decide) ?_
      refine lv_icmp_ge (tgt := 73) hx hb dX10_tellsFact_12 (by decide) (fun c6 => ?_) (fun c6 => ?_)
      · replace hm := ite_t c6 hm
        exact hk8 x1 x2 _ _ _ hm hP hS (lv_sub hl [3, 4] rfl)
      · replace hm := ite_f c6 hm
        refine lv_iload_n hx hb dX10_tellsFact_15 rfl (lv_at hl 3 rfl) ?_
        obtain ⟨k38, ek38, hm⟩ := nm_s hm
        have J38 : ∀ (x7 : Int32) (H : Heap) (locs : List Loc) (ls : Array Slot), k38 x7 = some o → va_P (dC, dI) vwCl [oX10 a_th (.int v_thrown) q_text (.int v_textSize) (.int v_place) q_question (.int v_questionSize) (.int v_facts) (.int v_isSo) (.int v_common) (.int v_readFacts) (.int v_readSo) (.int v_readCommon) (.int v_readDay) q_page (.long v_seed) q_book q_bookSeed (.int v_acts) q_kept q_isKept (.int v_told) q_toldSimple q_toldDay q_toldYes q_yesOf q_noOf (.ref a_factOf) q_stack q_one q_two q_three, aI cI a_p1 n_p1 v_p1, aI cI a_factOf 5 v_factOf] H → va_S A s.heap H locs → lv_has ls 6 [(0, .ref a_th), (1, .ref a_p1), (2, .int p_2), (4, .int x2), (5, .int x3)] → W p l e (headSpec wsX10_tellsFact { frames := 0, cells := 0, slots := 0, locals := 0 }).room s m [.ref a_th, .ref a_p1, .int p_2].toArray below meth c H locs 0 0 Q (F0 m 38 ls [.int x7]) := by
          intro x7 H locs ls hm hP hS hl
          rw [ek38] at hm
          refine lv_istore_n (lv' := [(3, .int x7), (0, .ref a_th), (1, .ref a_p1), (2, .int p_2), (4, .int x2), (5, .int x3)]) hx hb dX10_tellsFact_38 rfl hl (by decide) rfl (fun ls hl => ?_)
          refine lv_iload hx hb dX10_tellsFact_39 (lv_at hl 4 rfl) ?_
          obtain ⟨k65, ek65, hm⟩ := nm_s hm
          have J65 : ∀ (x8 : Int32) (H : Heap) (locs : List Loc) (ls : Array Slot), k65 x8 = some o → va_P (dC, dI) vwCl [oX10 a_th (.int v_thrown) q_text (.int v_textSize) (.int v_place) q_question (.int v_questionSize) (.int v_facts) (.int v_isSo) (.int v_common) (.int v_readFacts) (.int v_readSo) (.int v_readCommon) (.int v_readDay) q_page (.long v_seed) q_book q_bookSeed (.int v_acts) q_kept q_isKept (.int v_told) q_toldSimple q_toldDay q_toldYes q_yesOf q_noOf (.ref a_factOf) q_stack q_one q_two q_three, aI cI a_p1 n_p1 v_p1, aI cI a_factOf 5 v_factOf] H → va_S A s.heap H locs → lv_has ls 6 [(0, .ref a_th), (1, .ref a_p1), (2, .int p_2), (3, .int x7), (5, .int x3)] → W p l e (headSpec wsX10_tellsFact { frames := 0, cells := 0, slots := 0, locals := 0 }).room s m [.ref a_th, .ref a_p1, .int p_2].toArray below meth c H locs 0 0 Q (F0 m 65 ls [.int x8]) := by
            intro x8 H locs ls hm hP hS hl
            rw [ek65] at hm
            refine lv_istore (lv' := [(4, .int x8), (0, .ref a_th), (1, .ref a_p1), (2, .int p_2), (3, .int x7), (5, .int x3)]) hx hb dX10_tellsFact_65 hl (by decide) rfl (fun ls hl => ?_)
            obtain ⟨x9, ex9⟩ : ∃ y : Int32, y = x3 + (1 : Int32) := ⟨_, rfl⟩
            replace hm := nm_t ex9 hm
            refine lv_iinc (v := x9) (lv' := [(5, .int x9), (4, .int x8), (0, .ref a_th), (1, .ref a_p1), (2, .int p_2), (3, .int x7)]) hx hb dX10_tellsFact_67 hl (k := 5) rfl (by rw [ex9]; rfl) (by decide) rfl (fun ls hl => ?_)
            refine lv_goto (tgt := 8) hx hb dX10_tellsFact_70 (by decide) ?_
            exact ih8 x7 x8 x9 k8 _ _ _ hm hk8 hP hS (lv_sub hl [2, 3, 4, 5, 1, 0] rfl)
          obtain ⟨k60, ek60, hm⟩ := nm_s hm
          have J60 : ∀ (H : Heap) (locs : List Loc) (ls : Array Slot), k60 = some o → va_P (dC, dI) vwCl [oX10 a_th (.int v_thrown) q_text (.int v_textSize) (.int v_place) q_question (.int v_questionSize) (.int v_facts) (.int v_isSo) (.int v_common) (.int v_readFacts) (.int v_readSo) (.int v_readCommon) (.int v_readDay) q_page (.long v_seed) q_book q_bookSeed (.int v_acts) q_kept q_isKept (.int v_told) q_toldSimple q_toldDay q_toldYes q_yesOf q_noOf (.ref a_factOf) q_stack q_one q_two q_three, aI cI a_p1 n_p1 v_p1, aI cI a_factOf 5 v_factOf] H → va_S A s.heap H locs → lv_has ls 6 [(0, .ref a_th), (1, .ref a_p1), (2, .int p_2), (3, .int x7), (5, .int x3)] → W p l e (headSpec wsX10_tellsFact { frames := 0, cells := 0, slots := 0, locals := 0 }).room s m [.ref a_th, .ref a_p1, .int p_2].toArray below meth c H locs 0 0 Q (F0 m 60 ls []) := by
            intro  H locs ls hm hP hS hl
            rw [ek60] at hm
            refine lv_iconst (v := (1 : Int32)) hx hb dX10_tellsFact_60 (by decide) ?_
            refine lv_goto (tgt := 65) hx hb dX10_tellsFact_61 (by decide) ?_
            exact J65 (1 : Int32) _ _ _ hm hP hS (lv_sub hl [0, 1, 2, 3, 4] rfl)
          refine lv_if_ne (tgt := 60) hx hb dX10_tellsFact_41 (by decide) (fun c10 => ?_) (fun c10 => ?_)
          · replace hm := ite_f c10 hm
            exact J60  _ _ _ hm hP hS (lv_sub hl [1, 2, 3, 0, 5] rfl)
          · replace hm := ite_t c10 hm
            refine lv_aload_n hx hb dX10_tellsFact_44 rfl (lv_at hl 2 rfl) ?_
            refine lv_iload hx hb dX10_tellsFact_45 (lv_at hl 5 rfl) ?_
            obtain ⟨h11, hm⟩ := gd_s hm
            refine va_iald hx hb hK hP 1 0 rfl rfl (inB_s h11) dX10_tellsFact_47 ?_
            refine lv_aload_n hx hb dX10_tellsFact_48 rfl (lv_at hl 1 rfl) ?_
            refine va_get (D := (dC, dI)) (ci := 8) (v := .ref a_factOf) (C := RX10) (T := TX10) (N := 31) hx hb hts iX10 hown hK hP 0 rfl rfl 26 (by decide) f48 (fun _ h9 => h9) rfl dX10_tellsFact_49 ?_
            refine lv_iload_n hx hb dX10_tellsFact_52 rfl (lv_at hl 3 rfl) ?_
            obtain ⟨h12, hm⟩ := gd_s hm
            refine va_iald hx hb hK hP 2 0 rfl rfl (inB_s h12) dX10_tellsFact_53 ?_
            refine lv_iconst (v := (-1 : Int32)) hx hb dX10_tellsFact_54 (by decide) ?_
            refine lv_ixor hx hb dX10_tellsFact_55 ?_
            refine lv_iand hx hb dX10_tellsFact_56 ?_
            refine lv_if_eq (tgt := 64) hx hb dX10_tellsFact_57 (by decide) (fun c13 => ?_) (fun c13 => ?_)
            · replace hm := ite_t c13 hm
              refine lv_iconst (v := (0 : Int32)) hx hb dX10_tellsFact_64 (by decide) ?_
              exact J65 (0 : Int32) _ _ _ hm hP hS (lv_sub hl [1, 2, 3, 0, 5] rfl)
            · replace hm := ite_f c13 hm
              exact J60  _ _ _ hm hP hS (lv_sub hl [1, 2, 3, 0, 5] rfl)
        obtain ⟨k33, ek33, hm⟩ := nm_s hm
        have J33 : ∀ (H : Heap) (locs : List Loc) (ls : Array Slot), k33 = some o → va_P (dC, dI) vwCl [oX10 a_th (.int v_thrown) q_text (.int v_textSize) (.int v_place) q_question (.int v_questionSize) (.int v_facts) (.int v_isSo) (.int v_common) (.int v_readFacts) (.int v_readSo) (.int v_readCommon) (.int v_readDay) q_page (.long v_seed) q_book q_bookSeed (.int v_acts) q_kept q_isKept (.int v_told) q_toldSimple q_toldDay q_toldYes q_yesOf q_noOf (.ref a_factOf) q_stack q_one q_two q_three, aI cI a_p1 n_p1 v_p1, aI cI a_factOf 5 v_factOf] H → va_S A s.heap H locs → lv_has ls 6 [(0, .ref a_th), (1, .ref a_p1), (2, .int p_2), (4, .int x2), (5, .int x3)] → W p l e (headSpec wsX10_tellsFact { frames := 0, cells := 0, slots := 0, locals := 0 }).room s m [.ref a_th, .ref a_p1, .int p_2].toArray below meth c H locs 0 0 Q (F0 m 33 ls []) := by
          intro  H locs ls hm hP hS hl
          rw [ek33] at hm
          refine lv_iconst (v := (1 : Int32)) hx hb dX10_tellsFact_33 (by decide) ?_
          refine lv_goto (tgt := 38) hx hb dX10_tellsFact_34 (by decide) ?_
          exact J38 (1 : Int32) _ _ _ hm hP hS (lv_sub hl [0, 1, 2, 3, 4] rfl)
        refine lv_if_ne (tgt := 33) hx hb dX10_tellsFact_16 (by decide) (fun c14 => ?_) (fun c14 => ?_)
        · replace hm := ite_f c14 hm
          exact J33  _ _ _ hm hP hS (lv_sub hl [0, 1, 2, 4, 5] rfl)
        · replace hm := ite_t c14 hm
          refine lv_aload_n hx hb dX10_tellsFact_19 rfl (lv_at hl 1 rfl) ?_
          refine lv_iload hx hb dX10_tellsFact_20 (lv_at hl 5 rfl) ?_
          obtain ⟨h15, hm⟩ := gd_s hm
          refine va_iald hx hb hK hP 1 0 rfl rfl (inB_s h15) dX10_tellsFact_22 ?_
          refine lv_aload_n hx hb dX10_tellsFact_23 rfl (lv_at hl 0 rfl) ?_
          refine va_get (D := (dC, dI)) (ci := 8) (v := .ref a_factOf) (C := RX10) (T := TX10) (N := 31) hx hb hts iX10 hown hK hP 0 rfl rfl 26 (by decide) f48 (fun _ h9 => h9) rfl dX10_tellsFact_24 ?_
          refine lv_iload_n hx hb dX10_tellsFact_27 rfl (lv_at hl 2 rfl) ?_
          obtain ⟨h16, hm⟩ := gd_s hm
          refine va_iald hx hb hK hP 2 0 rfl rfl (inB_s h16) dX10_tellsFact_28 ?_
          refine lv_iand hx hb dX10_tellsFact_29 ?_
          refine lv_if_eq (tgt := 37) hx hb dX10_tellsFact_30 (by decide) (fun c17 => ?_) (fun c17 => ?_)
          · replace hm := ite_t c17 hm
            refine lv_iconst (v := (0 : Int32)) hx hb dX10_tellsFact_37 (by decide) ?_
            exact J38 (0 : Int32) _ _ _ hm hP hS (lv_sub hl [0, 1, 2, 4, 5] rfl)
          · replace hm := ite_f c17 hm
            exact J33  _ _ _ hm hP hS (lv_sub hl [0, 1, 2, 4, 5] rfl)
  refine lp8 1024 (0 : Int32) (0 : Int32) (0 : Int32) _ _ _ _ hm (fun x4 x5 H locs ls hm hP hS hl => ?_) hP hS (lv_sub hl [3, 4, 5, 2, 1, 0] rfl)
  refine lv_iload_n hx hb dX10_tellsFact_73 rfl (lv_at hl 0 rfl) ?_
  obtain ⟨k87, ek87, hm⟩ := nm_s hm
  have J87 : ∀ (H : Heap) (locs : List Loc) (ls : Array Slot), k87 = some o → va_P (dC, dI) vwCl [oX10 a_th (.int v_thrown) q_text (.int v_textSize) (.int v_place) q_question (.int v_questionSize) (.int v_facts) (.int v_isSo) (.int v_common) (.int v_readFacts) (.int v_readSo) (.int v_readCommon) (.int v_readDay) q_page (.long v_seed) q_book q_bookSeed (.int v_acts) q_kept q_isKept (.int v_told) q_toldSimple q_toldDay q_toldYes q_yesOf q_noOf (.ref a_factOf) q_stack q_one q_two q_three, aI cI a_p1 n_p1 v_p1, aI cI a_factOf 5 v_factOf] H → va_S A s.heap H locs → lv_has ls 6 [(3, .int x4)] → W p l e (headSpec wsX10_tellsFact { frames := 0, cells := 0, slots := 0, locals := 0 }).room s m [.ref a_th, .ref a_p1, .int p_2].toArray below meth c H locs 0 0 Q (F0 m 87 ls []) := by
    intro  H locs ls hm hP hS hl
    rw [ek87] at hm
    refine lv_iload_n hx hb dX10_tellsFact_87 rfl (lv_at hl 0 rfl) ?_
    refine lv_if_eq (tgt := 95) hx hb dX10_tellsFact_88 (by decide) (fun c18 => ?_) (fun c18 => ?_)
    · replace hm := ite_t c18 hm
      refine lv_iconst (v := (0 : Int32)) hx hb dX10_tellsFact_95 (by decide) ?_
      obtain rfl := Option.some.inj hm
      subst hQ
      exact W.iret hx hb hr (fun t ht hW => ⟨⟨_, (), rfl, rfl, kb_h hP ht⟩, hS.F ht⟩) hS.2.2 dX10_tellsFact_96
    · replace hm := ite_f c18 hm
      refine lv_iconst (v := (1 : Int32)) hx hb dX10_tellsFact_91 (by decide) ?_
      refine lv_goto (tgt := 96) hx hb dX10_tellsFact_92 (by decide) ?_
      obtain rfl := Option.some.inj hm
      subst hQ
      exact W.iret hx hb hr (fun t ht hW => ⟨⟨_, (), rfl, rfl, kb_h hP ht⟩, hS.F ht⟩) hS.2.2 dX10_tellsFact_96
  refine lv_if_eq (tgt := 87) hx hb dX10_tellsFact_74 (by decide) (fun c19 => ?_) (fun c19 => ?_)
  · replace hm := ite_t c19 hm
    exact J87  _ _ _ hm hP hS (lv_sub hl [0] rfl)
  · replace hm := ite_f c19 hm
    refine lv_iload hx hb dX10_tellsFact_77 (lv_at hl 1 rfl) ?_
    refine lv_if_eq (tgt := 87) hx hb dX10_tellsFact_79 (by decide) (fun c20 => ?_) (fun c20 => ?_)
    · replace hm := ite_t c20 hm
      exact J87  _ _ _ hm hP hS (lv_sub hl [0] rfl)
    · replace hm := ite_f c20 hm
      refine lv_bipush (v := (-9 : Int32)) hx hb dX10_tellsFact_82 (by decide) ?_
      refine lv_goto (tgt := 96) hx hb dX10_tellsFact_84 (by decide) ?_
      obtain rfl := Option.some.inj hm
      subst hQ
      exact W.iret hx hb hr (fun t ht hW => ⟨⟨_, (), rfl, rfl, kb_h hP ht⟩, hS.F ht⟩) hS.2.2 dX10_tellsFact_96
