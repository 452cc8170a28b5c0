set_option maxHeartbeats 4000000 in
set_option maxRecDepth 100000 in
theorem c_X10_untell (l : Launch) (dC : Nat → ClassId) (dI : Nat → Nat → Nat) (cI cJ cZ cQ : ClassId) (t sz : Nat) (a_th : Nat) (q_text : Value) (q_question : Value) (q_page : Value) (q_book : Value) (q_bookSeed : Value) (q_kept : Value) (q_isKept : Value) (q_toldSimple : Value) (q_toldDay : Value) (q_toldYes : Value) (q_yesOf : Value) (q_noOf : Value) (q_factOf : Value) (q_stack : Value) (q_one : Value) (q_two : Value) (q_three : Value) (v_thrown : Int32) (v_textSize : Int32) (v_place : Int32) (v_questionSize : Int32) (v_facts : Int32) (v_isSo : Int32) (v_common : Int32) (v_readFacts : Int32) (v_readSo : Int32) (v_readCommon : Int32) (v_readDay : Int32) (v_seed : Int64) (v_acts : Int32) (v_told : Int32) (o : Int32 × Int32 × Int32) (hm : m_X10_untell v_thrown v_told = some o) : Met l yX10_untell wsX10_untell { frames := 0, cells := 0, slots := 0, locals := 0 } (va_Pc [.ref a_th] (cP (dC, dI) (kT cI cJ cZ cQ) t sz [oX10 a_th (.int v_thrown) q_text (.int v_textSize) (.int v_place) q_question (.int v_questionSize) (.int v_facts) (.int v_isSo) (.int v_common) (.int v_readFacts) (.int v_readSo) (.int v_readCommon) (.int v_readDay) q_page (.long v_seed) q_book q_bookSeed (.int v_acts) q_kept q_isKept (.int v_told) q_toldSimple q_toldDay q_toldYes q_yesOf q_noOf q_factOf q_stack q_one q_two q_three])) (cQi (dC, dI) (va_A [oX10 a_th (.int v_thrown) q_text (.int v_textSize) (.int v_place) q_question (.int v_questionSize) (.int v_facts) (.int v_isSo) (.int v_common) (.int v_readFacts) (.int v_readSo) (.int v_readCommon) (.int v_readDay) q_page (.long v_seed) q_book q_bookSeed (.int v_acts) q_kept q_isKept (.int v_told) q_toldSimple q_toldDay q_toldYes q_yesOf q_noOf q_factOf q_stack q_one q_two q_three] sz) o.1 [oX10 a_th (.int (o.2.1)) q_text (.int v_textSize) (.int v_place) q_question (.int v_questionSize) (.int v_facts) (.int v_isSo) (.int v_common) (.int v_readFacts) (.int v_readSo) (.int v_readCommon) (.int v_readDay) q_page (.long v_seed) q_book q_bookSeed (.int v_acts) q_kept q_isKept (.int (o.2.2)) q_toldSimple q_toldDay q_toldYes q_yesOf q_noOf q_factOf q_stack q_one q_two q_three]) 0 0 (va_A [oX10 a_th (.int v_thrown) q_text (.int v_textSize) (.int v_place) q_question (.int v_questionSize) (.int v_facts) (.int v_isSo) (.int v_common) (.int v_readFacts) (.int v_readSo) (.int v_readCommon) (.int v_readDay) q_page (.long v_seed) q_book q_bookSeed (.int v_acts) q_kept q_isKept (.int v_told) q_toldSimple q_toldDay q_toldYes q_yesOf q_noOf q_factOf q_stack q_one q_two q_three] sz) := by
  refine Met.ofW (cc := cX10_untell) (maxL := 2) (ret := (some .int)) (by decide) rfl ?_
  intro p e s m args below meth c s₁ B hml hv
  obtain ⟨rfl, hsz, hP, hK, hD0, hG⟩ := hv
  have hx := B.exec
  have hb := B.bytes
  have hr := B.returns
  have hts := atoms_spec (ws := wsX10_untell) B.pre
  have hown : s.vm.findClass RX10 = some m.cls := findClass_of_methodNamed B.named
  have hlocks := B.notSynchronized
  subst hsz
  have hD := hD0.self (sz := s.heap.size)
  generalize hAe : va_A [oX10 a_th (.int v_thrown) q_text (.int v_textSize) (.int v_place) q_question (.int v_questionSize) (.int v_facts) (.int v_isSo) (.int v_common) (.int v_readFacts) (.int v_readSo) (.int v_readCommon) (.int v_readDay) q_page (.long v_seed) q_book q_bookSeed (.int v_acts) q_kept q_isKept (.int v_told) q_toldSimple q_toldDay q_toldYes q_yesOf q_noOf q_factOf q_stack q_one q_two q_three] s.heap.size = A at hD hG ⊢
  have hA : ∀ q : Nat, s.heap.size ≤ q → A q := fun q h => by rw [← hAe]; exact Or.inr h
  have hS : va_S A s.heap s.heap [] := va_S.rf
  have hl := lv_entry ([.ref a_th]) (n := 2) (Nat.le_of_ble_eq_true rfl)
  rw [lg_entry_eq]
  generalize (lg_sl ([.ref a_th]) ++ List.replicate (2 - (lg_sl ([.ref a_th])).length) Slot.unset).toArray = ls at hl ⊢
  have hl : lv_has ls 2 [(0, .ref a_th)] := hl
  have iX10 : ∀ w ∈ wsX100, w ∈ wsX10_untell := fun _ h => List.mem_cons_of_mem _ (List.mem_append_right _ h)
  have f66 := hts (.fieldLink RX10 66 "TrueOnceWeekModel" "thrown" "I") (by decide +kernel)
  have f136 := hts (.fieldLink RX10 136 "TrueOnceWeekModel" "told" "I") (by decide +kernel)
  refine kb_gen (fun Q hQ => ?_)
  unfold m_X10_untell at hm
  refine lv_aload_n hx hb dX10_untell_0 rfl (lv_at hl 0 rfl) ?_
  refine lv_iconst (v := (0 : Int32)) hx hb dX10_untell_1 (by decide) ?_
  refine va_put (D := (dC, dI)) (ci := 8) (v := .int (0 : Int32)) (ty := .int) (C := RX10) (T := TX10) (N := 31) hx hb hts iX10 tyX10 tyX10_ok nmX10 hown hK hP (kb_D hD rfl) hS 0 rfl rfl 0 (by decide) f66 (fun _ h9 => h9) rfl (by decide +kernel) rfl rfl (Nat.le_of_ble_eq_true rfl) dX10_untell_2 (fun H locs hP _ hS => ?_)
  have hP : va_P (dC, dI) vwCl [oX10 a_th (.int (0 : Int32)) q_text (.int v_textSize) (.int v_place) q_question (.int v_questionSize) (.int v_facts) (.int v_isSo) (.int v_common) (.int v_readFacts) (.int v_readSo) (.int v_readCommon) (.int v_readDay) q_page (.long v_seed) q_book q_bookSeed (.int v_acts) q_kept q_isKept (.int v_told) q_toldSimple q_toldDay q_toldYes q_yesOf q_noOf q_factOf q_stack q_one q_two q_three] H := hP
  refine lv_aload_n hx hb dX10_untell_5 rfl (lv_at hl 0 rfl) ?_
  refine va_get (D := (dC, dI)) (ci := 8) (v := .int v_told) (C := RX10) (T := TX10) (N := 31) hx hb hts iX10 hown hK hP 0 rfl rfl 20 (by decide) f136 (fun _ h9 => h9) rfl dX10_untell_6 ?_
  refine lv_istore_n (lv' := [(1, .int v_told), (0, .ref a_th)]) hx hb dX10_untell_9 rfl hl (by decide) rfl (fun ls hl => ?_)
  refine lv_aload_n hx hb dX10_untell_10 rfl (lv_at hl 1 rfl) ?_
  refine lv_iconst (v := (0 : Int32)) hx hb dX10_untell_11 (by decide) ?_
  refine va_put (D := (dC, dI)) (ci := 8) (v := .int (0 : Int32)) (ty := .int) (C := RX10) (T := TX10) (N := 31) hx hb hts iX10 tyX10 tyX10_ok nmX10 hown hK hP (kb_D hD rfl) hS 0 rfl rfl 20 (by decide) f136 (fun _ h9 => h9) rfl (by decide +kernel) rfl rfl (Nat.le_of_ble_eq_true rfl) dX10_untell_12 (fun H locs hP _ hS => ?_)
  have hP : va_P (dC, dI) vwCl [oX10 a_th (.int (0 : Int32)) q_text (.int v_textSize) (.int v_place) q_question (.int v_questionSize) (.int v_facts) (.int v_isSo) (.int v_common) (.int v_readFacts) (.int v_readSo) (.int v_readCommon) (.int v_readDay) q_page (.long v_seed) q_book q_bookSeed (.int v_acts) q_kept q_isKept (.int (0 : Int32)) q_toldSimple q_toldDay q_toldYes q_yesOf q_noOf q_factOf q_stack q_one q_two q_three] H := hP
  refine lv_iload_n hx hb dX10_untell_15 rfl (lv_at hl 0 rfl) ?_
  obtain rfl := Option.some.inj hm
  subst hQ
  exact W.iret hx hb hr (fun t ht hW => ⟨⟨_, (), rfl, rfl, kb_h hP ht⟩, hS.F ht⟩) hS.2.2 dX10_untell_16
set_option maxHeartbeats 4000000 in
set_option maxRecDepth 100000 in
theorem c_X10_march (l : Launch) (dC : Nat → ClassId) (dI : Nat → Nat → Nat) (cI cJ cZ cQ : ClassId) (t sz : Nat) (a_th : Nat) (a_one : Nat) (a_toldSimple : Nat) (a_toldDay : Nat) (a_toldYes : Nat) (a_question : Nat) (a_stack : Nat) (a_yesOf : Nat) (a_noOf : Nat) (a_two : Nat) (a_factOf : Nat) (q_text : Value) (q_page : Value) (q_book : Value) (q_bookSeed : Value) (q_kept : Value) (q_isKept : Value) (q_three : Value) (v_thrown : Int32) (v_textSize : Int32) (v_place : Int32) (v_questionSize : Int32) (v_facts : Int32) (v_isSo : Int32) (v_common : Int32) (v_readFacts : Int32) (v_readSo : Int32) (v_readCommon : Int32) (v_readDay : Int32) (v_seed : Int64) (v_acts : Int32) (v_told : Int32) (v_one : (Nat → Int32)) (v_toldSimple : (Nat → Int32)) (v_toldDay : (Nat → Int32)) (v_toldYes : (Nat → Int32)) (v_question : (Nat → Int32)) (v_stack : (Nat → Int32)) (v_yesOf : (Nat → Int32)) (v_noOf : (Nat → Int32)) (v_two : (Nat → Int32)) (v_factOf : (Nat → Int32)) (p_1 : Int32) (o : Int32 × Int32 × (Nat → Int32) × (Nat → Int32) × (Nat → Int32)) (hm : m_X10_march p_1 v_thrown v_questionSize v_facts v_isSo v_common v_told v_one v_toldSimple v_toldDay v_toldYes v_question v_stack v_yesOf v_noOf v_two v_factOf = some o) : Met l yX10_march wsX10_march { frames := 5, cells := 0, slots := 0, locals := 132 } (va_Pc [.ref a_th, .int p_1] (cP (dC, dI) (kT cI cJ cZ cQ) t sz [oX10 a_th (.int v_thrown) q_text (.int v_textSize) (.int v_place) (.ref a_question) (.int v_questionSize) (.int v_facts) (.int v_isSo) (.int v_common) (.int v_readFacts) (.int v_readSo) (.int v_readCommon) (.int v_readDay) q_page (.long v_seed) q_book q_bookSeed (.int v_acts) q_kept q_isKept (.int v_told) (.ref a_toldSimple) (.ref a_toldDay) (.ref a_toldYes) (.ref a_yesOf) (.ref a_noOf) (.ref a_factOf) (.ref a_stack) (.ref a_one) (.ref a_two) q_three, aI cI a_one 7 v_one, aI cI a_toldSimple 6 v_toldSimple, aI cI a_toldDay 6 v_toldDay, aI cZ a_toldYes 6 v_toldYes, aI cI a_question 16 v_question, aI cZ a_stack 17 v_stack, aI cI a_yesOf 931 v_yesOf, aI cI a_noOf 931 v_noOf, aI cI a_two 7 v_two, aI cI a_factOf 5 v_factOf])) (cQi (dC, dI) (va_A [oX10 a_th (.int v_thrown) q_text (.int v_textSize) (.int v_place) (.ref a_question) (.int v_questionSize) (.int v_facts) (.int v_isSo) (.int v_common) (.int v_readFacts) (.int v_readSo) (.int v_readCommon) (.int v_readDay) q_page (.long v_seed) q_book q_bookSeed (.int v_acts) q_kept q_isKept (.int v_told) (.ref a_toldSimple) (.ref a_toldDay) (.ref a_toldYes) (.ref a_yesOf) (.ref a_noOf) (.ref a_factOf) (.ref a_stack) (.ref a_one) (.ref a_two) q_three, aI cI a_one 7 v_one, aI cI a_toldSimple 6 v_toldSimple, aI cI a_toldDay 6 v_toldDay, aI cZ a_toldYes 6 v_toldYes, aI cI a_question 16 v_question, aI cZ a_stack 17 v_stack, aI cI a_yesOf 931 v_yesOf, aI cI a_noOf 931 v_noOf, aI cI a_two 7 v_two, aI cI a_factOf 5 v_factOf] sz) o.1 [oX10 a_th (.int (o.2.1)) q_text (.int v_textSize) (.int v_place) (.ref a_question) (.int v_questionSize) (.int v_facts) (.int v_isSo) (.int v_common) (.int v_readFacts) (.int v_readSo) (.int v_readCommon) (.int v_readDay) q_page (.long v_seed) q_book q_bookSeed (.int v_acts) q_kept q_isKept (.int v_told) (.ref a_toldSimple) (.ref a_toldDay) (.ref a_toldYes) (.ref a_yesOf) (.ref a_noOf) (.ref a_factOf) (.ref a_stack) (.ref a_one) (.ref a_two) q_three, aI cI a_one 7 (o.2.2.1), aI cI a_toldSimple 6 v_toldSimple, aI cI a_toldDay 6 v_toldDay, aI cZ a_toldYes 6 v_toldYes, aI cI a_question 16 v_question, aI cZ a_stack 17 (o.2.2.2.1), aI cI a_yesOf 931 v_yesOf, aI cI a_noOf 931 v_noOf, aI cI a_two 7 (o.2.2.2.2), aI cI a_factOf 5 v_factOf]) 0 0 (va_A [oX10 a_th (.int v_thrown) q_text (.int v_textSize) (.int v_place) (.ref a_question) (.int v_questionSize) (.int v_facts) (.int v_isSo) (.int v_common) (.int v_readFacts) (.int v_readSo) (.int v_readCommon) (.int v_readDay) q_page (.long v_seed) q_book q_bookSeed (.int v_acts) q_kept q_isKept (.int v_told) (.ref a_toldSimple) (.ref a_toldDay) (.ref a_toldYes) (.ref a_yesOf) (.ref a_noOf) (.ref a_factOf) (.ref a_stack) (.ref a_one) (.ref a_two) q_three, aI cI a_one 7 v_one, aI cI a_toldSimple 6 v_toldSimple, aI cI a_toldDay 6 v_toldDay, aI cZ a_toldYes 6 v_toldYes, aI cI a_question 16 v_question, aI cZ a_stack 17 v_stack, aI cI a_yesOf 931 v_yesOf, aI cI a_noOf 931 v_noOf, aI cI a_two 7 v_two, aI cI a_factOf 5 v_factOf] sz) := by
  refine Met.ofW (cc := cX10_march) (maxL := 5) (ret := (some .int)) (by decide) rfl ?_
  intro p e s m args below meth c s₁ B hml hv
  obtain ⟨rfl, hsz, hP, hK, hD0, hG⟩ := hv
  have hx := B.exec
  have hb := B.bytes
  have hr := B.returns
  have hts := atoms_spec (ws := wsX10_march) B.pre
  have hown : s.vm.findClass RX10 = some m.cls := findClass_of_methodNamed B.named
  have hlocks := B.notSynchronized
  subst hsz
  have hD := hD0.self (sz := s.heap.size)
  generalize hAe : va_A [oX10 a_th (.int v_thrown) q_text (.int v_textSize) (.int v_place) (.ref a_question) (.int v_questionSize) (.int v_facts) (.int v_isSo) (.int v_common) (.int v_readFacts) (.int v_readSo) (.int v_readCommon) (.int v_readDay) q_page (.long v_seed) q_book q_bookSeed (.int v_acts) q_kept q_isKept (.int v_told) (.ref a_toldSimple) (.ref a_toldDay) (.ref a_toldYes) (.ref a_yesOf) (.ref a_noOf) (.ref a_factOf) (.ref a_stack) (.ref a_one) (.ref a_two) q_three, aI cI a_one 7 v_one, aI cI a_toldSimple 6 v_toldSimple, aI cI a_toldDay 6 v_toldDay, aI cZ a_toldYes 6 v_toldYes, aI cI a_question 16 v_question, aI cZ a_stack 17 v_stack, aI cI a_yesOf 931 v_yesOf, aI cI a_noOf 931 v_noOf, aI cI a_two 7 v_two, aI cI a_factOf 5 v_factOf] s.heap.size = A at hD hG ⊢
  have hA : ∀ q : Nat, s.heap.size ≤ q → A q := fun q h => by rw [← hAe]; exact Or.inr h
  have hS : va_S A s.heap s.heap [] := va_S.rf
  have hl := lv_entry ([.ref a_th, .int p_1]) (n := 5) (Nat.le_of_ble_eq_true rfl)
  rw [lg_entry_eq]
  generalize (lg_sl ([.ref a_th, .int p_1]) ++ List.replicate (5 - (lg_sl ([.ref a_th, .int p_1])).length) Slot.unset).toArray = ls at hl ⊢
  have hl : lv_has ls 5 [(0, .ref a_th), (1, .int p_1)] := hl
  have iX10 : ∀ w ∈ wsX100, w ∈ wsX10_march := fun _ h => List.mem_cons_of_mem _ (List.mem_append_right _ h)
  have f66 := hts (.fieldLink RX10 66 "TrueOnceWeekModel" "thrown" "I") (by decide +kernel)
  have cl218 := hts (.constantLong RX10 218 (3 : Int64)) (by decide +kernel)
  have f54 := hts (.fieldLink RX10 54 "TrueOnceWeekModel" "one" "[I") (by decide +kernel)
  have f136 := hts (.fieldLink RX10 136 "TrueOnceWeekModel" "told" "I") (by decide +kernel)
  have f33 := hts (.fieldLink RX10 33 "TrueOnceWeekModel" "toldSimple" "[I") (by decide +kernel)
  have f36 := hts (.fieldLink RX10 36 "TrueOnceWeekModel" "toldDay" "[I") (by decide +kernel)
  have f39 := hts (.fieldLink RX10 39 "TrueOnceWeekModel" "toldYes" "[Z") (by decide +kernel)
  have f57 := hts (.fieldLink RX10 57 "TrueOnceWeekModel" "two" "[I") (by decide +kernel)
  have f102 := hts (.fieldLink RX10 102 "TrueOnceWeekModel" "facts" "I") (by decide +kernel)
  refine kb_gen (fun Q hQ => ?_)
  unfold m_X10_march at hm
  refine lv_aload_n hx hb dX10_march_0 rfl (lv_at hl 0 rfl) ?_
  refine lv_iconst (v := (0 : Int32)) hx hb dX10_march_1 (by decide) ?_
  refine va_put (D := (dC, dI)) (ci := 8) (v := .int (0 : Int32)) (ty := .int) (C := RX10) (T := TX10) (N := 31) hx hb hts iX10 tyX10 tyX10_ok nmX10 hown hK hP (kb_D hD rfl) hS 0 rfl rfl 0 (by decide) f66 (fun _ h9 => h9) rfl (by decide +kernel) rfl rfl (Nat.le_of_ble_eq_true rfl) dX10_march_2 (fun H locs hP _ hS => ?_)
  have hP : va_P (dC, dI) vwCl [oX10 a_th (.int (0 : Int32)) q_text (.int v_textSize) (.int v_place) (.ref a_question) (.int v_questionSize) (.int v_facts) (.int v_isSo) (.int v_common) (.int v_readFacts) (.int v_readSo) (.int v_readCommon) (.int v_readDay) q_page (.long v_seed) q_book q_bookSeed (.int v_acts) q_kept q_isKept (.int v_told) (.ref a_toldSimple) (.ref a_toldDay) (.ref a_toldYes) (.ref a_yesOf) (.ref a_noOf) (.ref a_factOf) (.ref a_stack) (.ref a_one) (.ref a_two) q_three, aI cI a_one 7 v_one, aI cI a_toldSimple 6 v_toldSimple, aI cI a_toldDay 6 v_toldDay, aI cZ a_toldYes 6 v_toldYes, aI cI a_question 16 v_question, aI cZ a_stack 17 v_stack, aI cI a_yesOf 931 v_yesOf, aI cI a_noOf 931 v_noOf, aI cI a_two 7 v_two, aI cI a_factOf 5 v_factOf] H := hP
  refine lv_iload_n hx hb dX10_march_5 rfl (lv_at hl 1 rfl) ?_
  refine lv_i2l (v := (Int32.toInt64 p_1)) hx hb dX10_march_6 rfl ?_
  refine lv_lconst (v := (0 : Int64)) hx hb dX10_march_7 (by decide) ?_
  refine lv_ldc2 (v := (3 : Int64)) hx hb hown cl218 dX10_march_8 ?_
  obtain ⟨r1, ho2, hm⟩ := bd1_s hm
  refine kb_calli (Rv := r1) (va_runS (As := [.long (Int32.toInt64 p_1), .long (0 : Int64), .long (3 : Int64)]) (rest := []) ⟨hx, hb, hml, hown, hts⟩ (c_X10_in l dC dI cI cJ cZ cQ t H.size (Int32.toInt64 p_1) (0 : Int64) (3 : Int64) (r1) ho2) (va_cwS 3 hts gX10_march_X10_in rfl rfl rfl (by decide +kernel) ⟨(Nat.le_of_ble_eq_true rfl), (Nat.le_of_ble_eq_true rfl)⟩) (kb_pre hK hG hP (kb_D hD rfl) hS hA [] rfl (by decide)) rfl rfl hl.1 rfl (lv_room (Nat.le_of_ble_eq_true rfl)) dX10_march_11 ⟨Nat.zero_le _, Nat.zero_le _⟩) hP (kb_D hD rfl) hS hA [] rfl [(false, 0), (false, 1), (false, 2), (false, 3), (false, 4), (false, 5), (false, 6), (false, 7), (false, 8), (false, 9), (false, 10)] (w2 := [oX10 a_th (.int (0 : Int32)) q_text (.int v_textSize) (.int v_place) (.ref a_question) (.int v_questionSize) (.int v_facts) (.int v_isSo) (.int v_common) (.int v_readFacts) (.int v_readSo) (.int v_readCommon) (.int v_readDay) q_page (.long v_seed) q_book q_bookSeed (.int v_acts) q_kept q_isKept (.int v_told) (.ref a_toldSimple) (.ref a_toldDay) (.ref a_toldYes) (.ref a_yesOf) (.ref a_noOf) (.ref a_factOf) (.ref a_stack) (.ref a_one) (.ref a_two) q_three, aI cI a_one 7 v_one, aI cI a_toldSimple 6 v_toldSimple, aI cI a_toldDay 6 v_toldDay, aI cZ a_toldYes 6 v_toldYes, aI cI a_question 16 v_question, aI cZ a_stack 17 v_stack, aI cI a_yesOf 931 v_yesOf, aI cI a_noOf 931 v_noOf, aI cI a_two 7 v_two, aI cI a_factOf 5 v_factOf]) rfl (by decide) (fun H locs hP hS => ?_)
  refine lv_if_ne (tgt := 20) hx hb dX10_march_14 (by decide) (fun c3 => ?_) (fun c3 => ?_)
  · replace hm := ite_f c3 hm
    refine lv_iconst (v := (0 : Int32)) hx hb dX10_march_20 (by decide) ?_
    refine lv_istore_n (lv' := [(2, .int (0 : Int32)), (0, .ref a_th), (1, .int p_1)]) hx hb dX10_march_21 rfl hl (by decide) rfl (fun ls hl => ?_)
    have lp22 : ∀ (n22 : Nat) (x4 : Int32) (w5 : (Nat → Int32)) (k22 : (Nat → Int32) → Option (Int32 × Int32 × (Nat → Int32) × (Nat → Int32) × (Nat → Int32))) (H : Heap) (locs : List Loc) (ls : Array Slot), L_X10_march_22 v_facts v_isSo v_common n22 x4 w5 k22 = some o → (∀ (w6 : (Nat → Int32)) (H : Heap) (locs : List Loc) (ls : Array Slot), k22 w6 = some o → va_P (dC, dI) vwCl [oX10 a_th (.int (0 : Int32)) q_text (.int v_textSize) (.int v_place) (.ref a_question) (.int v_questionSize) (.int v_facts) (.int v_isSo) (.int v_common) (.int v_readFacts) (.int v_readSo) (.int v_readCommon) (.int v_readDay) q_page (.long v_seed) q_book q_bookSeed (.int v_acts) q_kept q_isKept (.int v_told) (.ref a_toldSimple) (.ref a_toldDay) (.ref a_toldYes) (.ref a_yesOf) (.ref a_noOf) (.ref a_factOf) (.ref a_stack) (.ref a_one) (.ref a_two) q_three, aI cI a_one 7 w6, aI cI a_toldSimple 6 v_toldSimple, aI cI a_toldDay 6 v_toldDay, aI cZ a_toldYes 6 v_toldYes, aI cI a_question 16 v_question, aI cZ a_stack 17 v_stack, aI cI a_yesOf 931 v_yesOf, aI cI a_noOf 931 v_noOf, aI cI a_two 7 v_two, aI cI a_factOf 5 v_factOf] H → va_S A s.heap H locs → lv_has ls 5 [(0, .ref a_th), (1, .int p_1)] → W p l e (headSpec wsX10_march { frames := 5, cells := 0, slots := 0, locals := 132 }).room s m [.ref a_th, .int p_1].toArray below meth c H locs 0 0 Q (F0 m 44 ls [])) → va_P (dC, dI) vwCl [oX10 a_th (.int (0 : Int32)) q_text (.int v_textSize) (.int v_place) (.ref a_question) (.int v_questionSize) (.int v_facts) (.int v_isSo) (.int v_common) (.int v_readFacts) (.int v_readSo) (.int v_readCommon) (.int v_readDay) q_page (.long v_seed) q_book q_bookSeed (.int v_acts) q_kept q_isKept (.int v_told) (.ref a_toldSimple) (.ref a_toldDay) (.ref a_toldYes) (.ref a_yesOf) (.ref a_noOf) (.ref a_factOf) (.ref a_stack) (.ref a_one) (.ref a_two) q_three, aI cI a_one 7 w5, aI cI a_toldSimple 6 v_toldSimple, aI cI a_toldDay 6 v_toldDay, aI cZ a_toldYes 6 v_toldYes, aI cI a_question 16 v_question, aI cZ a_stack 17 v_stack, aI cI a_yesOf 931 v_yesOf, aI cI a_noOf 931 v_noOf, aI cI a_two 7 v_two, aI cI a_factOf 5 v_factOf] H → va_S A s.heap H locs → lv_has ls 5 [(0, .ref a_th), (1, .int p_1), (2, .int x4)] → W p l e (headSpec wsX10_march { frames := 5, cells := 0, slots := 0, locals := 132 }).room s m [.ref a_th, .int p_1].toArray below meth c H locs 0 0 Q (F0 m 22 ls []) := by
      intro n22
      induction n22 with
      | zero =>
        intro x4 w5 k22 H locs ls hm
        cases (show (none : Option (Int32 × Int32 × (Nat → Int32) × (Nat → Int32) × (Nat → Int32))) = some o from hm)
      | succ n22 ih22 =>
        intro x4 w5 k22 H locs ls hm hk22 hP hS hl
        rw [L_X10_march_22.eq_2] at hm
        refine lv_iload_n hx hb dX10_march_22 rfl (lv_at hl 2 rfl) ?_
        refine lv_bipush (v := (7 : Int32)) hx hb dX10_march_23 (by decide) ?_
        refine lv_icmp_ge (tgt := 44) hx hb dX10_march_25 (by decide) (fun c7 => ?_) (fun c7 => ?_)
        · replace hm := ite_t c7 hm
          exact hk22 w5 _ _ _ hm hP hS (lv_sub hl [0, 1] rfl)
        · replace hm := ite_f c7 hm
          refine lv_aload_n hx hb dX10_march_28 rfl (lv_at hl 0 rfl) ?_
          refine va_get (D := (dC, dI)) (ci := 8) (v := .ref a_one) (C := RX10) (T := TX10) (N := 31) hx hb hts iX10 hown hK hP 0 rfl rfl 28 (by decide) f54 (fun _ h9 => h9) rfl dX10_march_29 ?_
          refine lv_iload_n hx hb dX10_march_32 rfl (lv_at hl 2 rfl) ?_
          refine lv_aload_n hx hb dX10_march_33 rfl (lv_at hl 0 rfl) ?_
          obtain ⟨r8, ho9, hm⟩ := bd1_s hm
          refine kb_calli (Rv := r8) (va_runV (As := []) (rest := [.int x4, .ref a_one]) ⟨hx, hb, hml, hown, hts⟩ (c_X10_agreed l dC dI cI cJ cZ cQ t H.size a_th q_text (.ref a_question) q_page q_book q_bookSeed q_kept q_isKept (.ref a_toldSimple) (.ref a_toldDay) (.ref a_toldYes) (.ref a_yesOf) (.ref a_noOf) (.ref a_factOf) (.ref a_stack) (.ref a_one) (.ref a_two) q_three (0 : Int32) v_textSize v_place v_questionSize v_facts v_isSo v_common v_readFacts v_readSo v_readCommon v_readDay v_seed v_acts v_told (r8) ho9) (cwV 0 hts gX10_march_X10_agreed rfl rfl rfl (by decide +kernel) ⟨(Nat.le_of_ble_eq_true rfl), (Nat.le_of_ble_eq_true rfl)⟩) ⟨(kb_pre hK hG hP (kb_D hD rfl) hS hA [0] rfl (by decide)).1, (va_recv hK hP (ci := 8) (q0 := 0) rfl rfl), (kb_pre hK hG hP (kb_D hD rfl) hS hA [0] rfl (by decide)).2⟩ rfl rfl hl.1 rfl (lv_room (Nat.le_of_ble_eq_true rfl)) dX10_march_34 ⟨Nat.zero_le _, Nat.zero_le _⟩) hP (kb_D hD rfl) hS hA [0] rfl [(true, 0), (false, 1), (false, 2), (false, 3), (false, 4), (false, 5), (false, 6), (false, 7), (false, 8), (false, 9), (false, 10)] (w2 := [oX10 a_th (.int (0 : Int32)) q_text (.int v_textSize) (.int v_place) (.ref a_question) (.int v_questionSize) (.int v_facts) (.int v_isSo) (.int v_common) (.int v_readFacts) (.int v_readSo) (.int v_readCommon) (.int v_readDay) q_page (.long v_seed) q_book q_bookSeed (.int v_acts) q_kept q_isKept (.int v_told) (.ref a_toldSimple) (.ref a_toldDay) (.ref a_toldYes) (.ref a_yesOf) (.ref a_noOf) (.ref a_factOf) (.ref a_stack) (.ref a_one) (.ref a_two) q_three, aI cI a_one 7 w5, aI cI a_toldSimple 6 v_toldSimple, aI cI a_toldDay 6 v_toldDay, aI cZ a_toldYes 6 v_toldYes, aI cI a_question 16 v_question, aI cZ a_stack 17 v_stack, aI cI a_yesOf 931 v_yesOf, aI cI a_noOf 931 v_noOf, aI cI a_two 7 v_two, aI cI a_factOf 5 v_factOf]) rfl (by decide) (fun H locs hP hS => ?_)
          obtain ⟨h10, hm⟩ := gd_s hm
          refine va_iast hx hb hK hP (kb_D hD rfl) hS 1 0 rfl rfl (inB_s h10) dX10_march_37 (fun H locs hP _ hS => ?_)
          have hP : va_P (dC, dI) vwCl [oX10 a_th (.int (0 : Int32)) q_text (.int v_textSize) (.int v_place) (.ref a_question) (.int v_questionSize) (.int v_facts) (.int v_isSo) (.int v_common) (.int v_readFacts) (.int v_readSo) (.int v_readCommon) (.int v_readDay) q_page (.long v_seed) q_book q_bookSeed (.int v_acts) q_kept q_isKept (.int v_told) (.ref a_toldSimple) (.ref a_toldDay) (.ref a_toldYes) (.ref a_yesOf) (.ref a_noOf) (.ref a_factOf) (.ref a_stack) (.ref a_one) (.ref a_two) q_three, aI cI a_one 7 (upd w5 (Int32.toNatClampNeg x4) r8), aI cI a_toldSimple 6 v_toldSimple, aI cI a_toldDay 6 v_toldDay, aI cZ a_toldYes 6 v_toldYes, aI cI a_question 16 v_question, aI cZ a_stack 17 v_stack, aI cI a_yesOf 931 v_yesOf, aI cI a_noOf 931 v_noOf, aI cI a_two 7 v_two, aI cI a_factOf 5 v_factOf] H := hP
          obtain ⟨x11, ex11⟩ : ∃ y : Int32, y = x4 + (1 : Int32) := ⟨_, rfl⟩
          replace hm := nm_t ex11 hm
          refine lv_iinc (v := x11) (lv' := [(2, .int x11), (0, .ref a_th), (1, .int p_1)]) hx hb dX10_march_38 hl (k := 2) rfl (by rw [ex11]; rfl) (by decide) rfl (fun ls hl => ?_)
          refine lv_goto (tgt := 22) hx hb dX10_march_41 (by decide) ?_
          exact ih22 x11 (upd w5 (Int32.toNatClampNeg x4) r8) k22 _ _ _ hm hk22 hP hS (lv_sub hl [1, 2, 0] rfl)
    refine lp22 1024 (0 : Int32) v_one _ _ _ _ hm (fun w6 H locs ls hm hP hS hl => ?_) hP hS (lv_sub hl [1, 2, 0] rfl)
    refine lv_iconst (v := (0 : Int32)) hx hb dX10_march_44 (by decide) ?_
    refine lv_istore_n (lv' := [(2, .int (0 : Int32)), (0, .ref a_th), (1, .int p_1)]) hx hb dX10_march_45 rfl hl (by decide) rfl (fun ls hl => ?_)
    have lp46 : ∀ (n46 : Nat) (x12 : Int32) (w13 : (Nat → Int32)) (w14 : (Nat → Int32)) (w15 : (Nat → Int32)) (k46 : (Nat → Int32) → (Nat → Int32) → (Nat → Int32) → Option (Int32 × Int32 × (Nat → Int32) × (Nat → Int32) × (Nat → Int32))) (H : Heap) (locs : List Loc) (ls : Array Slot), L_X10_march_46 v_questionSize v_facts v_told v_toldSimple v_toldDay v_toldYes v_question v_yesOf v_noOf n46 x12 w13 w14 w15 k46 = some o → (∀ (w16 : (Nat → Int32)) (w17 : (Nat → Int32)) (w18 : (Nat → Int32)) (H : Heap) (locs : List Loc) (ls : Array Slot), k46 w16 w17 w18 = some o → va_P (dC, dI) vwCl [oX10 a_th (.int (0 : Int32)) q_text (.int v_textSize) (.int v_place) (.ref a_question) (.int v_questionSize) (.int v_facts) (.int v_isSo) (.int v_common) (.int v_readFacts) (.int v_readSo) (.int v_readCommon) (.int v_readDay) q_page (.long v_seed) q_book q_bookSeed (.int v_acts) q_kept q_isKept (.int v_told) (.ref a_toldSimple) (.ref a_toldDay) (.ref a_toldYes) (.ref a_yesOf) (.ref a_noOf) (.ref a_factOf) (.ref a_stack) (.ref a_one) (.ref a_two) q_three, aI cI a_one 7 w16, aI cI a_toldSimple 6 v_toldSimple, aI cI a_toldDay 6 v_toldDay, aI cZ a_toldYes 6 v_toldYes, aI cI a_question 16 v_question, aI cZ a_stack 17 w17, aI cI a_yesOf 931 v_yesOf, aI cI a_noOf 931 v_noOf, aI cI a_two 7 w18, aI cI a_factOf 5 v_factOf] H → va_S A s.heap H locs → lv_has ls 5 [(0, .ref a_th), (1, .int p_1)] → W p l e (headSpec wsX10_march { frames := 5, cells := 0, slots := 0, locals := 132 }).room s m [.ref a_th, .int p_1].toArray below meth c H locs 0 0 Q (F0 m 137 ls [])) → va_P (dC, dI) vwCl [oX10 a_th (.int (0 : Int32)) q_text (.int v_textSize) (.int v_place) (.ref a_question) (.int v_questionSize) (.int v_facts) (.int v_isSo) (.int v_common) (.int v_readFacts) (.int v_readSo) (.int v_readCommon) (.int v_readDay) q_page (.long v_seed) q_book q_bookSeed (.int v_acts) q_kept q_isKept (.int v_told) (.ref a_toldSimple) (.ref a_toldDay) (.ref a_toldYes) (.ref a_yesOf) (.ref a_noOf) (.ref a_factOf) (.ref a_stack) (.ref a_one) (.ref a_two) q_three, aI cI a_one 7 w13, aI cI a_toldSimple 6 v_toldSimple, aI cI a_toldDay 6 v_toldDay, aI cZ a_toldYes 6 v_toldYes, aI cI a_question 16 v_question, aI cZ a_stack 17 w14, aI cI a_yesOf 931 v_yesOf, aI cI a_noOf 931 v_noOf, aI cI a_two 7 w15, aI cI a_factOf 5 v_factOf] H → va_S A s.heap H locs → lv_has ls 5 [(0, .ref a_th), (1, .int p_1), (2, .int x12)] → W p l e (headSpec wsX10_march { frames := 5, cells := 0, slots := 0, locals := 132 }).room s m [.ref a_th, .int p_1].toArray below meth c H locs 0 0 Q (F0 m 46 ls []) := by
      intro n46
      induction n46 with
      | zero =>
        intro x12 w13 w14 w15 k46 H locs ls hm
        cases (show (none : Option (Int32 × Int32 × (Nat → Int32) × (Nat → Int32) × (Nat → Int32))) = some o from hm)
      | succ n46 ih46 =>
        intro x12 w13 w14 w15 k46 H locs ls hm hk46 hP hS hl
        rw [L_X10_march_46.eq_2] at hm
        refine lv_iload_n hx hb dX10_march_46 rfl (lv_at hl 2 rfl) ?_
        refine lv_aload_n hx hb dX10_march_47 rfl (lv_at hl 0 rfl) ?_
        refine va_get (D := (dC, dI)) (ci := 8) (v := .int v_told) (C := RX10) (T := TX10) (N := 31) hx hb hts iX10 hown hK hP 0 rfl rfl 20 (by decide) f136 (fun _ h9 => h9) rfl dX10_march_48 ?_
        refine lv_icmp_ge (tgt := 137) hx hb dX10_march_51 (by decide) (fun c19 => ?_) (fun c19 => ?_)
        · replace hm := ite_t c19 hm
          exact hk46 w13 w14 w15 _ _ _ hm hP hS (lv_sub hl [0, 1] rfl)
        · replace hm := ite_f c19 hm
          refine lv_aload_n hx hb dX10_march_54 rfl (lv_at hl 0 rfl) ?_
          refine lv_aload_n hx hb dX10_march_55 rfl (lv_at hl 0 rfl) ?_
          refine va_get (D := (dC, dI)) (ci := 8) (v := .ref a_toldSimple) (C := RX10) (T := TX10) (N := 31) hx hb hts iX10 hown hK hP 0 rfl rfl 21 (by decide) f33 (fun _ h9 => h9) rfl dX10_march_56 ?_
          refine lv_iload_n hx hb dX10_march_59 rfl (lv_at hl 2 rfl) ?_
          obtain ⟨h20, hm⟩ := gd_s hm
          refine va_iald hx hb hK hP 2 0 rfl rfl (inB_s h20) dX10_march_60 ?_
          obtain ⟨r21, ho22, hm⟩ := bd1_s hm
          refine kb_calli (Rv := r21) (va_runV (As := [.int (v_toldSimple (Int32.toNatClampNeg x12))]) (rest := []) ⟨hx, hb, hml, hown, hts⟩ (c_X10_noSimple l dC dI cI cJ cZ cQ t H.size a_th q_text (.ref a_question) q_page q_book q_bookSeed q_kept q_isKept (.ref a_toldSimple) (.ref a_toldDay) (.ref a_toldYes) (.ref a_yesOf) (.ref a_noOf) (.ref a_factOf) (.ref a_stack) (.ref a_one) (.ref a_two) q_three (0 : Int32) v_textSize v_place v_questionSize v_facts v_isSo v_common v_readFacts v_readSo v_readCommon v_readDay v_seed v_acts v_told (v_toldSimple (Int32.toNatClampNeg x12)) (r21) ho22) (cwV 1 hts gX10_march_X10_noSimple rfl rfl rfl (by decide +kernel) ⟨(Nat.le_of_ble_eq_true rfl), (Nat.le_of_ble_eq_true rfl)⟩) ⟨(kb_pre hK hG hP (kb_D hD rfl) hS hA [0] rfl (by decide)).1, (va_recv hK hP (ci := 8) (q0 := 0) rfl rfl), (kb_pre hK hG hP (kb_D hD rfl) hS hA [0] rfl (by decide)).2⟩ rfl rfl hl.1 rfl (lv_room (Nat.le_of_ble_eq_true rfl)) dX10_march_61 ⟨Nat.zero_le _, Nat.zero_le _⟩) hP (kb_D hD rfl) hS hA [0] rfl [(true, 0), (false, 1), (false, 2), (false, 3), (false, 4), (false, 5), (false, 6), (false, 7), (false, 8), (false, 9), (false, 10)] (w2 := [oX10 a_th (.int (0 : Int32)) q_text (.int v_textSize) (.int v_place) (.ref a_question) (.int v_questionSize) (.int v_facts) (.int v_isSo) (.int v_common) (.int v_readFacts) (.int v_readSo) (.int v_readCommon) (.int v_readDay) q_page (.long v_seed) q_book q_bookSeed (.int v_acts) q_kept q_isKept (.int v_told) (.ref a_toldSimple) (.ref a_toldDay) (.ref a_toldYes) (.ref a_yesOf) (.ref a_noOf) (.ref a_factOf) (.ref a_stack) (.ref a_one) (.ref a_two) q_three, aI cI a_one 7 w13, aI cI a_toldSimple 6 v_toldSimple, aI cI a_toldDay 6 v_toldDay, aI cZ a_toldYes 6 v_toldYes, aI cI a_question 16 v_question, aI cZ a_stack 17 w14, aI cI a_yesOf 931 v_yesOf, aI cI a_noOf 931 v_noOf, aI cI a_two 7 w15, aI cI a_factOf 5 v_factOf]) rfl (by decide) (fun H locs hP hS => ?_)
          obtain ⟨k131, ek131, hm⟩ := nm_s hm
          have J131 : ∀ (w23 : (Nat → Int32)) (w24 : (Nat → Int32)) (w25 : (Nat → Int32)) (H : Heap) (locs : List Loc) (ls : Array Slot), k131 w23 w24 w25 = some o → va_P (dC, dI) vwCl [oX10 a_th (.int (0 : Int32)) q_text (.int v_textSize) (.int v_place) (.ref a_question) (.int v_questionSize) (.int v_facts) (.int v_isSo) (.int v_common) (.int v_readFacts) (.int v_readSo) (.int v_readCommon) (.int v_readDay) q_page (.long v_seed) q_book q_bookSeed (.int v_acts) q_kept q_isKept (.int v_told) (.ref a_toldSimple) (.ref a_toldDay) (.ref a_toldYes) (.ref a_yesOf) (.ref a_noOf) (.ref a_factOf) (.ref a_stack) (.ref a_one) (.ref a_two) q_three, aI cI a_one 7 w23, aI cI a_toldSimple 6 v_toldSimple, aI cI a_toldDay 6 v_toldDay, aI cZ a_toldYes 6 v_toldYes, aI cI a_question 16 v_question, aI cZ a_stack 17 w24, aI cI a_yesOf 931 v_yesOf, aI cI a_noOf 931 v_noOf, aI cI a_two 7 w25, aI cI a_factOf 5 v_factOf] H → va_S A s.heap H locs → lv_has ls 5 [(0, .ref a_th), (1, .int p_1), (2, .int x12)] → W p l e (headSpec wsX10_march { frames := 5, cells := 0, slots := 0, locals := 132 }).room s m [.ref a_th, .int p_1].toArray below meth c H locs 0 0 Q (F0 m 131 ls []) := by
            intro w23 w24 w25 H locs ls hm hP hS hl
            rw [ek131] at hm
            obtain ⟨x26, ex26⟩ : ∃ y : Int32, y = x12 + (1 : Int32) := ⟨_, rfl⟩
            replace hm := nm_t ex26 hm
            refine lv_iinc (v := x26) (lv' := [(2, .int x26), (0, .ref a_th), (1, .int p_1)]) hx hb dX10_march_131 hl (k := 2) rfl (by rw [ex26]; rfl) (by decide) rfl (fun ls hl => ?_)
            refine lv_goto (tgt := 46) hx hb dX10_march_134 (by decide) ?_
            exact ih46 x26 w23 w24 w25 k46 _ _ _ hm hk46 hP hS (lv_sub hl [1, 2, 0] rfl)
          refine lv_if_ne (tgt := 131) hx hb dX10_march_64 (by decide) (fun c27 => ?_) (fun c27 => ?_)
          · replace hm := ite_f c27 hm
            exact J131 w13 w14 w15 _ _ _ hm hP hS (lv_sub hl [0, 1, 2] rfl)
          · replace hm := ite_t c27 hm
            refine lv_aload_n hx hb dX10_march_67 rfl (lv_at hl 0 rfl) ?_
            refine lv_aload_n hx hb dX10_march_68 rfl (lv_at hl 0 rfl) ?_
            refine va_get (D := (dC, dI)) (ci := 8) (v := .ref a_one) (C := RX10) (T := TX10) (N := 31) hx hb hts iX10 hown hK hP 0 rfl rfl 28 (by decide) f54 (fun _ h9 => h9) rfl dX10_march_69 ?_
            refine lv_aload_n hx hb dX10_march_72 rfl (lv_at hl 0 rfl) ?_
            refine va_get (D := (dC, dI)) (ci := 8) (v := .ref a_toldSimple) (C := RX10) (T := TX10) (N := 31) hx hb hts iX10 hown hK hP 0 rfl rfl 21 (by decide) f33 (fun _ h9 => h9) rfl dX10_march_73 ?_
            refine lv_iload_n hx hb dX10_march_76 rfl (lv_at hl 2 rfl) ?_
            obtain ⟨h28, hm⟩ := gd_s hm
            refine va_iald hx hb hK hP 2 0 rfl rfl (inB_s h28) dX10_march_77 ?_
            refine lv_aload_n hx hb dX10_march_78 rfl (lv_at hl 0 rfl) ?_
            refine va_get (D := (dC, dI)) (ci := 8) (v := .ref a_toldDay) (C := RX10) (T := TX10) (N := 31) hx hb hts iX10 hown hK hP 0 rfl rfl 22 (by decide) f36 (fun _ h9 => h9) rfl dX10_march_79 ?_
            refine lv_iload_n hx hb dX10_march_82 rfl (lv_at hl 2 rfl) ?_
            obtain ⟨h29, hm⟩ := gd_s hm
            refine va_iald hx hb hK hP 3 0 rfl rfl (inB_s h29) dX10_march_83 ?_
            refine lv_aload_n hx hb dX10_march_84 rfl (lv_at hl 0 rfl) ?_
            refine va_get (D := (dC, dI)) (ci := 8) (v := .ref a_toldYes) (C := RX10) (T := TX10) (N := 31) hx hb hts iX10 hown hK hP 0 rfl rfl 23 (by decide) f39 (fun _ h9 => h9) rfl dX10_march_85 ?_
            refine lv_iload_n hx hb dX10_march_88 rfl (lv_at hl 2 rfl) ?_
            obtain ⟨h30, hm⟩ := gd_s hm
            refine va_zald hx hb hK hP 4 2 rfl rfl (inB_s h30) dX10_march_89 ?_
            obtain ⟨k98, ek98, hm⟩ := nm_s hm
            have J98 : ∀ (x31 : Int32) (H : Heap) (locs : List Loc) (ls : Array Slot), k98 x31 = some o → va_P (dC, dI) vwCl [oX10 a_th (.int (0 : Int32)) q_text (.int v_textSize) (.int v_place) (.ref a_question) (.int v_questionSize) (.int v_facts) (.int v_isSo) (.int v_common) (.int v_readFacts) (.int v_readSo) (.int v_readCommon) (.int v_readDay) q_page (.long v_seed) q_book q_bookSeed (.int v_acts) q_kept q_isKept (.int v_told) (.ref a_toldSimple) (.ref a_toldDay) (.ref a_toldYes) (.ref a_yesOf) (.ref a_noOf) (.ref a_factOf) (.ref a_stack) (.ref a_one) (.ref a_two) q_three, aI cI a_one 7 w13, aI cI a_toldSimple 6 v_toldSimple, aI cI a_toldDay 6 v_toldDay, aI cZ a_toldYes 6 v_toldYes, aI cI a_question 16 v_question, aI cZ a_stack 17 w14, aI cI a_yesOf 931 v_yesOf, aI cI a_noOf 931 v_noOf, aI cI a_two 7 w15, aI cI a_factOf 5 v_factOf] H → va_S A s.heap H locs → lv_has ls 5 [(0, .ref a_th), (1, .int p_1), (2, .int x12)] → W p l e (headSpec wsX10_march { frames := 5, cells := 0, slots := 0, locals := 132 }).room s m [.ref a_th, .int p_1].toArray below meth c H locs 0 0 Q (F0 m 98 ls [.int x31, .int (v_toldDay (Int32.toNatClampNeg x12)), .int (v_toldSimple (Int32.toNatClampNeg x12)), .ref a_one, .ref a_th]) := by
              intro x31 H locs ls hm hP hS hl
              rw [ek98] at hm
              refine lv_aload_n hx hb dX10_march_98 rfl (lv_at hl 0 rfl) ?_
              refine va_get (D := (dC, dI)) (ci := 8) (v := .ref a_two) (C := RX10) (T := TX10) (N := 31) hx hb hts iX10 hown hK hP 0 rfl rfl 29 (by decide) f57 (fun _ h9 => h9) rfl dX10_march_99 ?_
              obtain ⟨w32, w33, ho34, hm⟩ := bd2_s hm
              refine kb_callv (va_runV (As := [.ref a_one, .int (v_toldSimple (Int32.toNatClampNeg x12)), .int (v_toldDay (Int32.toNatClampNeg x12)), .int x31, .ref a_two]) (rest := []) ⟨hx, hb, hml, hown, hts⟩ (c_X10_part l dC dI cI cJ cZ cQ t H.size a_th a_one a_question a_stack a_yesOf a_noOf a_two 7 7 q_text q_page q_book q_bookSeed q_kept q_isKept (.ref a_toldSimple) (.ref a_toldDay) (.ref a_toldYes) (.ref a_factOf) (.ref a_one) (.ref a_two) q_three (0 : Int32) v_textSize v_place v_questionSize v_facts v_isSo v_common v_readFacts v_readSo v_readCommon v_readDay v_seed v_acts v_told w13 v_question w14 v_yesOf v_noOf w15 (v_toldSimple (Int32.toNatClampNeg x12)) (v_toldDay (Int32.toNatClampNeg x12)) x31 (w32, w33) ho34) (cwV 5 hts gX10_march_X10_part rfl rfl rfl (by decide +kernel) ⟨(Nat.le_of_ble_eq_true rfl), (Nat.le_of_ble_eq_true rfl)⟩) ⟨(kb_pre hK hG hP (kb_D hD rfl) hS hA [0, 1, 5, 6, 7, 8, 9] rfl (by decide)).1, (va_recv hK hP (ci := 8) (q0 := 0) rfl rfl), (kb_pre hK hG hP (kb_D hD rfl) hS hA [0, 1, 5, 6, 7, 8, 9] rfl (by decide)).2⟩ rfl rfl hl.1 rfl (lv_room (Nat.le_of_ble_eq_true rfl)) dX10_march_102 ⟨Nat.zero_le _, Nat.zero_le _⟩) hP (kb_D hD rfl) hS hA [0, 1, 5, 6, 7, 8, 9] rfl [(true, 0), (true, 1), (false, 2), (false, 3), (false, 4), (true, 2), (true, 3), (true, 4), (true, 5), (true, 6), (false, 10)] (w2 := [oX10 a_th (.int (0 : Int32)) q_text (.int v_textSize) (.int v_place) (.ref a_question) (.int v_questionSize) (.int v_facts) (.int v_isSo) (.int v_common) (.int v_readFacts) (.int v_readSo) (.int v_readCommon) (.int v_readDay) q_page (.long v_seed) q_book q_bookSeed (.int v_acts) q_kept q_isKept (.int v_told) (.ref a_toldSimple) (.ref a_toldDay) (.ref a_toldYes) (.ref a_yesOf) (.ref a_noOf) (.ref a_factOf) (.ref a_stack) (.ref a_one) (.ref a_two) q_three, aI cI a_one 7 w13, aI cI a_toldSimple 6 v_toldSimple, aI cI a_toldDay 6 v_toldDay, aI cZ a_toldYes 6 v_toldYes, aI cI a_question 16 v_question, aI cZ a_stack 17 w32, aI cI a_yesOf 931 v_yesOf, aI cI a_noOf 931 v_noOf, aI cI a_two 7 w33, aI cI a_factOf 5 v_factOf]) rfl (by decide) (fun H locs hP hS => ?_)
              refine lv_iconst (v := (0 : Int32)) hx hb dX10_march_105 (by decide) ?_
              refine lv_istore_n (lv' := [(3, .int (0 : Int32)), (0, .ref a_th), (1, .int p_1), (2, .int x12)]) hx hb dX10_march_106 rfl hl (by decide) rfl (fun ls hl => ?_)
              have lp107 : ∀ (n107 : Nat) (x35 : Int32) (w36 : (Nat → Int32)) (k107 : (Nat → Int32) → Option (Int32 × Int32 × (Nat → Int32) × (Nat → Int32) × (Nat → Int32))) (H : Heap) (locs : List Loc) (ls : Array Slot), L_X10_march_107 w33 n107 x35 w36 k107 = some o → (∀ (w37 : (Nat → Int32)) (H : Heap) (locs : List Loc) (ls : Array Slot), k107 w37 = some o → va_P (dC, dI) vwCl [oX10 a_th (.int (0 : Int32)) q_text (.int v_textSize) (.int v_place) (.ref a_question) (.int v_questionSize) (.int v_facts) (.int v_isSo) (.int v_common) (.int v_readFacts) (.int v_readSo) (.int v_readCommon) (.int v_readDay) q_page (.long v_seed) q_book q_bookSeed (.int v_acts) q_kept q_isKept (.int v_told) (.ref a_toldSimple) (.ref a_toldDay) (.ref a_toldYes) (.ref a_yesOf) (.ref a_noOf) (.ref a_factOf) (.ref a_stack) (.ref a_one) (.ref a_two) q_three, aI cI a_one 7 w37, aI cI a_toldSimple 6 v_toldSimple, aI cI a_toldDay 6 v_toldDay, aI cZ a_toldYes 6 v_toldYes, aI cI a_question 16 v_question, aI cZ a_stack 17 w32, aI cI a_yesOf 931 v_yesOf, aI cI a_noOf 931 v_noOf, aI cI a_two 7 w33, aI cI a_factOf 5 v_factOf] H → va_S A s.heap H locs → lv_has ls 5 [(0, .ref a_th), (1, .int p_1), (2, .int x12)] → W p l e (headSpec wsX10_march { frames := 5, cells := 0, slots := 0, locals := 132 }).room s m [.ref a_th, .int p_1].toArray below meth c H locs 0 0 Q (F0 m 131 ls [])) → va_P (dC, dI) vwCl [oX10 a_th (.int (0 : Int32)) q_text (.int v_textSize) (.int v_place) (.ref a_question) (.int v_questionSize) (.int v_facts) (.int v_isSo) (.int v_common) (.int v_readFacts) (.int v_readSo) (.int v_readCommon) (.int v_readDay) q_page (.long v_seed) q_book q_bookSeed (.int v_acts) q_kept q_isKept (.int v_told) (.ref a_toldSimple) (.ref a_toldDay) (.ref a_toldYes) (.ref a_yesOf) (.ref a_noOf) (.ref a_factOf) (.ref a_stack) (.ref a_one) (.ref a_two) q_three, aI cI a_one 7 w36, aI cI a_toldSimple 6 v_toldSimple, aI cI a_toldDay 6 v_toldDay, aI cZ a_toldYes 6 v_toldYes, aI cI a_question 16 v_question, aI cZ a_stack 17 w32, aI cI a_yesOf 931 v_yesOf, aI cI a_noOf 931 v_noOf, aI cI a_two 7 w33, aI cI a_factOf 5 v_factOf] H → va_S A s.heap H locs → lv_has ls 5 [(0, .ref a_th), (1, .int p_1), (2, .int x12), (3, .int x35)] → W p l e (headSpec wsX10_march { frames := 5, cells := 0, slots := 0, locals := 132 }).room s m [.ref a_th, .int p_1].toArray below meth c H locs 0 0 Q (F0 m 107 ls []) := by
                intro n107
                induction n107 with
                | zero =>
                  intro x35 w36 k107 H locs ls hm
                  cases (show (none : Option (Int32 × Int32 × (Nat → Int32) × (Nat → Int32) × (Nat → Int32))) = some o from hm)
                | succ n107 ih107 =>
                  intro x35 w36 k107 H locs ls hm hk107 hP hS hl
                  rw [L_X10_march_107.eq_2] at hm
                  refine lv_iload_n hx hb dX10_march_107 rfl (lv_at hl 3 rfl) ?_
                  refine lv_bipush (v := (7 : Int32)) hx hb dX10_march_108 (by decide) ?_
                  refine lv_icmp_ge (tgt := 131) hx hb dX10_march_110 (by decide) (fun c38 => ?_) (fun c38 => ?_)
                  · replace hm := ite_t c38 hm
                    exact hk107 w36 _ _ _ hm hP hS (lv_sub hl [0, 1, 2] rfl)
                  · replace hm := ite_f c38 hm
                    refine lv_aload_n hx hb dX10_march_113 rfl (lv_at hl 0 rfl) ?_
                    refine va_get (D := (dC, dI)) (ci := 8) (v := .ref a_one) (C := RX10) (T := TX10) (N := 31) hx hb hts iX10 hown hK hP 0 rfl rfl 28 (by decide) f54 (fun _ h9 => h9) rfl dX10_march_114 ?_
                    refine lv_iload_n hx hb dX10_march_117 rfl (lv_at hl 3 rfl) ?_
                    refine lv_aload_n hx hb dX10_march_118 rfl (lv_at hl 0 rfl) ?_
                    refine va_get (D := (dC, dI)) (ci := 8) (v := .ref a_two) (C := RX10) (T := TX10) (N := 31) hx hb hts iX10 hown hK hP 0 rfl rfl 29 (by decide) f57 (fun _ h9 => h9) rfl dX10_march_119 ?_
                    refine lv_iload_n hx hb dX10_march_122 rfl (lv_at hl 3 rfl) ?_
                    obtain ⟨h39, hm⟩ := gd_s hm
                    refine va_iald hx hb hK hP 9 0 rfl rfl (inB_s h39) dX10_march_123 ?_
                    obtain ⟨h40, hm⟩ := gd_s hm
                    refine va_iast hx hb hK hP (kb_D hD rfl) hS 1 0 rfl rfl (inB_s h40) dX10_march_124 (fun H locs hP _ hS => ?_)
                    have hP : va_P (dC, dI) vwCl [oX10 a_th (.int (0 : Int32)) q_text (.int v_textSize) (.int v_place) (.ref a_question) (.int v_questionSize) (.int v_facts) (.int v_isSo) (.int v_common) (.int v_readFacts) (.int v_readSo) (.int v_readCommon) (.int v_readDay) q_page (.long v_seed) q_book q_bookSeed (.int v_acts) q_kept q_isKept (.int v_told) (.ref a_toldSimple) (.ref a_toldDay) (.ref a_toldYes) (.ref a_yesOf) (.ref a_noOf) (.ref a_factOf) (.ref a_stack) (.ref a_one) (.ref a_two) q_three, aI cI a_one 7 (upd w36 (Int32.toNatClampNeg x35) (w33 (Int32.toNatClampNeg x35))), aI cI a_toldSimple 6 v_toldSimple, aI cI a_toldDay 6 v_toldDay, aI cZ a_toldYes 6 v_toldYes, aI cI a_question 16 v_question, aI cZ a_stack 17 w32, aI cI a_yesOf 931 v_yesOf, aI cI a_noOf 931 v_noOf, aI cI a_two 7 w33, aI cI a_factOf 5 v_factOf] H := hP
                    obtain ⟨x41, ex41⟩ : ∃ y : Int32, y = x35 + (1 : Int32) := ⟨_, rfl⟩
                    replace hm := nm_t ex41 hm
                    refine lv_iinc (v := x41) (lv' := [(3, .int x41), (0, .ref a_th), (1, .int p_1), (2, .int x12)]) hx hb dX10_march_125 hl (k := 3) rfl (by rw [ex41]; rfl) (by decide) rfl (fun ls hl => ?_)
                    refine lv_goto (tgt := 107) hx hb dX10_march_128 (by decide) ?_
                    exact ih107 x41 (upd w36 (Int32.toNatClampNeg x35) (w33 (Int32.toNatClampNeg x35))) k107 _ _ _ hm hk107 hP hS (lv_sub hl [1, 2, 3, 0] rfl)
              refine lp107 1024 (0 : Int32) w13 _ _ _ _ hm (fun w37 H locs ls hm hP hS hl => ?_) hP hS (lv_sub hl [1, 2, 3, 0] rfl)
              exact J131 w37 w32 w33 _ _ _ hm hP hS (lv_sub hl [0, 1, 2] rfl)
            refine lv_if_eq (tgt := 97) hx hb dX10_march_90 (by decide) (fun c42 => ?_) (fun c42 => ?_)
            · replace hm := ite_t c42 hm
              refine lv_iconst (v := (0 : Int32)) hx hb dX10_march_97 (by decide) ?_
              exact J98 (0 : Int32) _ _ _ hm hP hS (lv_sub hl [0, 1, 2] rfl)
            · replace hm := ite_f c42 hm
              refine lv_iconst (v := (1 : Int32)) hx hb dX10_march_93 (by decide) ?_
              refine lv_goto (tgt := 98) hx hb dX10_march_94 (by decide) ?_
              exact J98 (1 : Int32) _ _ _ hm hP hS (lv_sub hl [0, 1, 2] rfl)
    refine lp46 1024 (0 : Int32) w6 v_stack v_two _ _ _ _ hm (fun w16 w17 w18 H locs ls hm hP hS hl => ?_) hP hS (lv_sub hl [1, 2, 0] rfl)
    refine lv_aload_n hx hb dX10_march_137 rfl (lv_at hl 0 rfl) ?_
    refine va_get (D := (dC, dI)) (ci := 8) (v := .ref a_one) (C := RX10) (T := TX10) (N := 31) hx hb hts iX10 hown hK hP 0 rfl rfl 28 (by decide) f54 (fun _ h9 => h9) rfl dX10_march_138 ?_
    obtain ⟨r43, ho44, hm⟩ := bd1_s hm
    refine kb_calli (Rv := r43) (va_runS (As := [.ref a_one]) (rest := []) ⟨hx, hb, hml, hown, hts⟩ (c_X10_knownMany l dC dI cI cJ cZ cQ t H.size a_one 7 w16 (r43) ho44) (va_cwS 1 hts gX10_march_X10_knownMany rfl rfl rfl (by decide +kernel) ⟨(Nat.le_of_ble_eq_true rfl), (Nat.le_of_ble_eq_true rfl)⟩) (kb_pre hK hG hP (kb_D hD rfl) hS hA [1] rfl (by decide)) rfl rfl hl.1 rfl (lv_room (Nat.le_of_ble_eq_true rfl)) dX10_march_141 ⟨Nat.zero_le _, Nat.zero_le _⟩) hP (kb_D hD rfl) hS hA [1] rfl [(false, 0), (true, 0), (false, 2), (false, 3), (false, 4), (false, 5), (false, 6), (false, 7), (false, 8), (false, 9), (false, 10)] (w2 := [oX10 a_th (.int (0 : Int32)) q_text (.int v_textSize) (.int v_place) (.ref a_question) (.int v_questionSize) (.int v_facts) (.int v_isSo) (.int v_common) (.int v_readFacts) (.int v_readSo) (.int v_readCommon) (.int v_readDay) q_page (.long v_seed) q_book q_bookSeed (.int v_acts) q_kept q_isKept (.int v_told) (.ref a_toldSimple) (.ref a_toldDay) (.ref a_toldYes) (.ref a_yesOf) (.ref a_noOf) (.ref a_factOf) (.ref a_stack) (.ref a_one) (.ref a_two) q_three, aI cI a_one 7 w16, aI cI a_toldSimple 6 v_toldSimple, aI cI a_toldDay 6 v_toldDay, aI cZ a_toldYes 6 v_toldYes, aI cI a_question 16 v_question, aI cZ a_stack 17 w17, aI cI a_yesOf 931 v_yesOf, aI cI a_noOf 931 v_noOf, aI cI a_two 7 w18, aI cI a_factOf 5 v_factOf]) rfl (by decide) (fun H locs hP hS => ?_)
    refine lv_istore_n (lv' := [(2, .int r43), (0, .ref a_th), (1, .int p_1)]) hx hb dX10_march_144 rfl hl (by decide) rfl (fun ls hl => ?_)
    refine lv_iload_n hx hb dX10_march_145 rfl (lv_at hl 2 rfl) ?_
    refine lv_iconst (v := (2 : Int32)) hx hb dX10_march_146 (by decide) ?_
    refine lv_icmp_ge (tgt := 166) hx hb dX10_march_147 (by decide) (fun c45 => ?_) (fun c45 => ?_)
    · replace hm := ite_t c45 hm
      refine lv_iconst (v := (0 : Int32)) hx hb dX10_march_166 (by decide) ?_
      refine lv_istore_n (lv' := [(3, .int (0 : Int32)), (2, .int r43), (0, .ref a_th), (1, .int p_1)]) hx hb dX10_march_167 rfl hl (by decide) rfl (fun ls hl => ?_)
      refine lv_iconst (v := (0 : Int32)) hx hb dX10_march_168 (by decide) ?_
      refine lv_istore (lv' := [(4, .int (0 : Int32)), (3, .int (0 : Int32)), (2, .int r43), (0, .ref a_th), (1, .int p_1)]) hx hb dX10_march_169 hl (by decide) rfl (fun ls hl => ?_)
      have lp171 : ∀ (n171 : Nat) (x46 : Int32) (x47 : Int32) (k171 : Int32 → Option (Int32 × Int32 × (Nat → Int32) × (Nat → Int32) × (Nat → Int32))) (H : Heap) (locs : List Loc) (ls : Array Slot), L_X10_march_171 v_facts v_factOf p_1 w16 n171 x46 x47 k171 = some o → (∀ (x48 : Int32) (H : Heap) (locs : List Loc) (ls : Array Slot), k171 x48 = some o → va_P (dC, dI) vwCl [oX10 a_th (.int (0 : Int32)) q_text (.int v_textSize) (.int v_place) (.ref a_question) (.int v_questionSize) (.int v_facts) (.int v_isSo) (.int v_common) (.int v_readFacts) (.int v_readSo) (.int v_readCommon) (.int v_readDay) q_page (.long v_seed) q_book q_bookSeed (.int v_acts) q_kept q_isKept (.int v_told) (.ref a_toldSimple) (.ref a_toldDay) (.ref a_toldYes) (.ref a_yesOf) (.ref a_noOf) (.ref a_factOf) (.ref a_stack) (.ref a_one) (.ref a_two) q_three, aI cI a_one 7 w16, aI cI a_toldSimple 6 v_toldSimple, aI cI a_toldDay 6 v_toldDay, aI cZ a_toldYes 6 v_toldYes, aI cI a_question 16 v_question, aI cZ a_stack 17 w17, aI cI a_yesOf 931 v_yesOf, aI cI a_noOf 931 v_noOf, aI cI a_two 7 w18, aI cI a_factOf 5 v_factOf] H → va_S A s.heap H locs → lv_has ls 5 [(2, .int r43), (3, .int x48)] → W p l e (headSpec wsX10_march { frames := 5, cells := 0, slots := 0, locals := 132 }).room s m [.ref a_th, .int p_1].toArray below meth c H locs 0 0 Q (F0 m 220 ls [])) → va_P (dC, dI) vwCl [oX10 a_th (.int (0 : Int32)) q_text (.int v_textSize) (.int v_place) (.ref a_question) (.int v_questionSize) (.int v_facts) (.int v_isSo) (.int v_common) (.int v_readFacts) (.int v_readSo) (.int v_readCommon) (.int v_readDay) q_page (.long v_seed) q_book q_bookSeed (.int v_acts) q_kept q_isKept (.int v_told) (.ref a_toldSimple) (.ref a_toldDay) (.ref a_toldYes) (.ref a_yesOf) (.ref a_noOf) (.ref a_factOf) (.ref a_stack) (.ref a_one) (.ref a_two) q_three, aI cI a_one 7 w16, aI cI a_toldSimple 6 v_toldSimple, aI cI a_toldDay 6 v_toldDay, aI cZ a_toldYes 6 v_toldYes, aI cI a_question 16 v_question, aI cZ a_stack 17 w17, aI cI a_yesOf 931 v_yesOf, aI cI a_noOf 931 v_noOf, aI cI a_two 7 w18, aI cI a_factOf 5 v_factOf] H → va_S A s.heap H locs → lv_has ls 5 [(0, .ref a_th), (1, .int p_1), (2, .int r43), (3, .int x46), (4, .int x47)] → W p l e (headSpec wsX10_march { frames := 5, cells := 0, slots := 0, locals := 132 }).room s m [.ref a_th, .int p_1].toArray below meth c H locs 0 0 Q (F0 m 171 ls []) := by
        intro n171
        induction n171 with
        | zero =>
          intro x46 x47 k171 H locs ls hm
          cases (show (none : Option (Int32 × Int32 × (Nat → Int32) × (Nat → Int32) × (Nat → Int32))) = some o from hm)
        | succ n171 ih171 =>
          intro x46 x47 k171 H locs ls hm hk171 hP hS hl
          rw [L_X10_march_171.eq_2] at hm
          refine lv_iload hx hb dX10_march_171 (lv_at hl 4 rfl) ?_
          refine lv_aload_n hx hb dX10_march_173 rfl (lv_at hl 0 rfl) ?_
          refine va_get (D := (dC, dI)) (ci := 8) (v := .int v_facts) (C := RX10) (T := TX10) (N := 31) hx hb hts iX10 hown hK hP 0 rfl rfl 6 (by decide) f102 (fun _ h9 => h9) rfl dX10_march_174 ?_
          refine lv_icmp_ge (tgt := 220) hx hb dX10_march_177 (by decide) (fun c49 => ?_) (fun c49 => ?_)
          · replace hm := ite_t c49 hm
            exact hk171 x46 _ _ _ hm hP hS (lv_sub hl [2, 3] rfl)
          · replace hm := ite_f c49 hm
            refine lv_iload_n hx hb dX10_march_180 rfl (lv_at hl 3 rfl) ?_
            refine lv_aload_n hx hb dX10_march_181 rfl (lv_at hl 0 rfl) ?_
            refine lv_aload_n hx hb dX10_march_182 rfl (lv_at hl 0 rfl) ?_
            refine va_get (D := (dC, dI)) (ci := 8) (v := .ref a_one) (C := RX10) (T := TX10) (N := 31) hx hb hts iX10 hown hK hP 0 rfl rfl 28 (by decide) f54 (fun _ h9 => h9) rfl dX10_march_183 ?_
            refine lv_iload hx hb dX10_march_186 (lv_at hl 4 rfl) ?_
            obtain ⟨r50, ho51, hm⟩ := bd1_s hm
            refine kb_calli (Rv := r50) (va_runV (As := [.ref a_one, .int x47]) (rest := [.int x46]) ⟨hx, hb, hml, hown, hts⟩ (c_X10_tellsFact l dC dI cI cJ cZ cQ t H.size a_th a_one a_factOf 7 q_text (.ref a_question) q_page q_book q_bookSeed q_kept q_isKept (.ref a_toldSimple) (.ref a_toldDay) (.ref a_toldYes) (.ref a_yesOf) (.ref a_noOf) (.ref a_stack) (.ref a_one) (.ref a_two) q_three (0 : Int32) v_textSize v_place v_questionSize v_facts v_isSo v_common v_readFacts v_readSo v_readCommon v_readDay v_seed v_acts v_told w16 v_factOf x47 (r50) ho51) (cwV 2 hts gX10_march_X10_tellsFact rfl rfl rfl (by decide +kernel) ⟨(Nat.le_of_ble_eq_true rfl), (Nat.le_of_ble_eq_true rfl)⟩) ⟨(kb_pre hK hG hP (kb_D hD rfl) hS hA [0, 1, 10] rfl (by decide)).1, (va_recv hK hP (ci := 8) (q0 := 0) rfl rfl), (kb_pre hK hG hP (kb_D hD rfl) hS hA [0, 1, 10] rfl (by decide)).2⟩ rfl rfl hl.1 rfl (lv_room (Nat.le_of_ble_eq_true rfl)) dX10_march_188 ⟨Nat.zero_le _, Nat.zero_le _⟩) hP (kb_D hD rfl) hS hA [0, 1, 10] rfl [(true, 0), (true, 1), (false, 2), (false, 3), (false, 4), (false, 5), (false, 6), (false, 7), (false, 8), (false, 9), (true, 2)] (w2 := [oX10 a_th (.int (0 : Int32)) q_text (.int v_textSize) (.int v_place) (.ref a_question) (.int v_questionSize) (.int v_facts) (.int v_isSo) (.int v_common) (.int v_readFacts) (.int v_readSo) (.int v_readCommon) (.int v_readDay) q_page (.long v_seed) q_book q_bookSeed (.int v_acts) q_kept q_isKept (.int v_told) (.ref a_toldSimple) (.ref a_toldDay) (.ref a_toldYes) (.ref a_yesOf) (.ref a_noOf) (.ref a_factOf) (.ref a_stack) (.ref a_one) (.ref a_two) q_three, aI cI a_one 7 w16, aI cI a_toldSimple 6 v_toldSimple, aI cI a_toldDay 6 v_toldDay, aI cZ a_toldYes 6 v_toldYes, aI cI a_question 16 v_question, aI cZ a_stack 17 w17, aI cI a_yesOf 931 v_yesOf, aI cI a_noOf 931 v_noOf, aI cI a_two 7 w18, aI cI a_factOf 5 v_factOf]) rfl (by decide) (fun H locs hP hS => ?_)
            refine lv_iload_n hx hb dX10_march_191 rfl (lv_at hl 1 rfl) ?_
            refine lv_iconst (v := (2 : Int32)) hx hb dX10_march_192 (by decide) ?_
            obtain ⟨k201, ek201, hm⟩ := nm_s hm
            have J201 : ∀ (x52 : Int32) (H : Heap) (locs : List Loc) (ls : Array Slot), k201 x52 = some o → va_P (dC, dI) vwCl [oX10 a_th (.int (0 : Int32)) q_text (.int v_textSize) (.int v_place) (.ref a_question) (.int v_questionSize) (.int v_facts) (.int v_isSo) (.int v_common) (.int v_readFacts) (.int v_readSo) (.int v_readCommon) (.int v_readDay) q_page (.long v_seed) q_book q_bookSeed (.int v_acts) q_kept q_isKept (.int v_told) (.ref a_toldSimple) (.ref a_toldDay) (.ref a_toldYes) (.ref a_yesOf) (.ref a_noOf) (.ref a_factOf) (.ref a_stack) (.ref a_one) (.ref a_two) q_three, aI cI a_one 7 w16, aI cI a_toldSimple 6 v_toldSimple, aI cI a_toldDay 6 v_toldDay, aI cZ a_toldYes 6 v_toldYes, aI cI a_question 16 v_question, aI cZ a_stack 17 w17, aI cI a_yesOf 931 v_yesOf, aI cI a_noOf 931 v_noOf, aI cI a_two 7 w18, aI cI a_factOf 5 v_factOf] H → va_S A s.heap H locs → lv_has ls 5 [(0, .ref a_th), (1, .int p_1), (2, .int r43), (4, .int x47)] → W p l e (headSpec wsX10_march { frames := 5, cells := 0, slots := 0, locals := 132 }).room s m [.ref a_th, .int p_1].toArray below meth c H locs 0 0 Q (F0 m 201 ls [.int x52, .int r50, .int x46]) := by
              intro x52 H locs ls hm hP hS hl
              rw [ek201] at hm
              obtain ⟨k212, ek212, hm⟩ := nm_s hm
              have J212 : ∀ (x53 : Int32) (H : Heap) (locs : List Loc) (ls : Array Slot), k212 x53 = some o → va_P (dC, dI) vwCl [oX10 a_th (.int (0 : Int32)) q_text (.int v_textSize) (.int v_place) (.ref a_question) (.int v_questionSize) (.int v_facts) (.int v_isSo) (.int v_common) (.int v_readFacts) (.int v_readSo) (.int v_readCommon) (.int v_readDay) q_page (.long v_seed) q_book q_bookSeed (.int v_acts) q_kept q_isKept (.int v_told) (.ref a_toldSimple) (.ref a_toldDay) (.ref a_toldYes) (.ref a_yesOf) (.ref a_noOf) (.ref a_factOf) (.ref a_stack) (.ref a_one) (.ref a_two) q_three, aI cI a_one 7 w16, aI cI a_toldSimple 6 v_toldSimple, aI cI a_toldDay 6 v_toldDay, aI cZ a_toldYes 6 v_toldYes, aI cI a_question 16 v_question, aI cZ a_stack 17 w17, aI cI a_yesOf 931 v_yesOf, aI cI a_noOf 931 v_noOf, aI cI a_two 7 w18, aI cI a_factOf 5 v_factOf] H → va_S A s.heap H locs → lv_has ls 5 [(0, .ref a_th), (1, .int p_1), (2, .int r43), (4, .int x47)] → W p l e (headSpec wsX10_march { frames := 5, cells := 0, slots := 0, locals := 132 }).room s m [.ref a_th, .int p_1].toArray below meth c H locs 0 0 Q (F0 m 212 ls [.int x53, .int x46]) := by
                intro x53 H locs ls hm hP hS hl
                rw [ek212] at hm
                refine lv_ior hx hb dX10_march_212 ?_
                refine lv_topi (fun x54 ex54 => ?_)
                replace hm := nm_t ex54 hm
                refine lv_istore_n (lv' := [(3, .int x54), (0, .ref a_th), (1, .int p_1), (2, .int r43), (4, .int x47)]) hx hb dX10_march_213 rfl hl (by decide) rfl (fun ls hl => ?_)
                obtain ⟨x55, ex55⟩ : ∃ y : Int32, y = x47 + (1 : Int32) := ⟨_, rfl⟩
                replace hm := nm_t ex55 hm
                refine lv_iinc (v := x55) (lv' := [(4, .int x55), (3, .int x54), (0, .ref a_th), (1, .int p_1), (2, .int r43)]) hx hb dX10_march_214 hl (k := 4) rfl (by rw [ex55]; rfl) (by decide) rfl (fun ls hl => ?_)
                refine lv_goto (tgt := 171) hx hb dX10_march_217 (by decide) ?_
                exact ih171 x54 x55 k171 _ _ _ hm hk171 hP hS (lv_sub hl [2, 3, 4, 1, 0] rfl)
              refine lv_icmp_ne (tgt := 211) hx hb dX10_march_201 (by decide) (fun c56 => ?_) (fun c56 => ?_)
              · replace hm := ite_f c56 hm
                refine lv_iconst (v := (0 : Int32)) hx hb dX10_march_211 (by decide) ?_
                exact J212 (0 : Int32) _ _ _ hm hP hS (lv_sub hl [0, 1, 2, 3] rfl)
              · replace hm := ite_t c56 hm
                refine lv_iconst (v := (1 : Int32)) hx hb dX10_march_204 (by decide) ?_
                refine lv_iload hx hb dX10_march_205 (lv_at hl 3 rfl) ?_
                refine lv_ishl hx hb dX10_march_207 ?_
                refine lv_goto (tgt := 212) hx hb dX10_march_208 (by decide) ?_
                exact J212 ((1 : Int32) <<< (x47 &&& 31)) _ _ _ hm hP hS (lv_sub hl [0, 1, 2, 3] rfl)
            refine lv_icmp_ne (tgt := 200) hx hb dX10_march_193 (by decide) (fun c57 => ?_) (fun c57 => ?_)
            · replace hm := ite_f c57 hm
              refine lv_iconst (v := (0 : Int32)) hx hb dX10_march_200 (by decide) ?_
              exact J201 (0 : Int32) _ _ _ hm hP hS (lv_sub hl [0, 1, 2, 4] rfl)
            · replace hm := ite_t c57 hm
              refine lv_iconst (v := (1 : Int32)) hx hb dX10_march_196 (by decide) ?_
              refine lv_goto (tgt := 201) hx hb dX10_march_197 (by decide) ?_
              exact J201 (1 : Int32) _ _ _ hm hP hS (lv_sub hl [0, 1, 2, 4] rfl)
      refine lp171 1024 (0 : Int32) (0 : Int32) _ _ _ _ hm (fun x48 H locs ls hm hP hS hl => ?_) hP hS (lv_sub hl [3, 4, 2, 1, 0] rfl)
      refine lv_iload_n hx hb dX10_march_220 rfl (lv_at hl 0 rfl) ?_
      refine lv_if_ne (tgt := 229) hx hb dX10_march_221 (by decide) (fun c58 => ?_) (fun c58 => ?_)
      · replace hm := ite_f c58 hm
        refine lv_iload_n hx hb dX10_march_229 rfl (lv_at hl 1 rfl) ?_
        obtain rfl := Option.some.inj hm
        subst hQ
        exact W.iret hx hb hr (fun t ht hW => ⟨⟨_, (), rfl, rfl, kb_h hP ht⟩, hS.F ht⟩) hS.2.2 dX10_march_230
      · replace hm := ite_t c58 hm
        refine lv_bipush (v := (-9 : Int32)) hx hb dX10_march_224 (by decide) ?_
        refine lv_goto (tgt := 230) hx hb dX10_march_226 (by decide) ?_
        obtain rfl := Option.some.inj hm
        subst hQ
        exact W.iret hx hb hr (fun t ht hW => ⟨⟨_, (), rfl, rfl, kb_h hP ht⟩, hS.F ht⟩) hS.2.2 dX10_march_230
    · replace hm := ite_f c45 hm
      refine lv_iload_n hx hb dX10_march_150 rfl (lv_at hl 2 rfl) ?_
      refine lv_if_ne (tgt := 158) hx hb dX10_march_151 (by decide) (fun c59 => ?_) (fun c59 => ?_)
      · replace hm := ite_f c59 hm
        refine lv_aload_n hx hb dX10_march_158 rfl (lv_at hl 1 rfl) ?_
        refine va_get (D := (dC, dI)) (ci := 8) (v := .ref a_one) (C := RX10) (T := TX10) (N := 31) hx hb hts iX10 hown hK hP 0 rfl rfl 28 (by decide) f54 (fun _ h9 => h9) rfl dX10_march_159 ?_
        obtain ⟨r60, ho61, hm⟩ := bd1_s hm
        refine kb_calli (Rv := r60) (va_runS (As := [.ref a_one]) (rest := []) ⟨hx, hb, hml, hown, hts⟩ (c_X10_daysOf l dC dI cI cJ cZ cQ t H.size a_one 7 w16 (r60) ho61) (va_cwS 1 hts gX10_march_X10_daysOf rfl rfl rfl (by decide +kernel) ⟨(Nat.le_of_ble_eq_true rfl), (Nat.le_of_ble_eq_true rfl)⟩) (kb_pre hK hG hP (kb_D hD rfl) hS hA [1] rfl (by decide)) rfl rfl hl.1 rfl (lv_room (Nat.le_of_ble_eq_true rfl)) dX10_march_162 ⟨Nat.zero_le _, Nat.zero_le _⟩) hP (kb_D hD rfl) hS hA [1] rfl [(false, 0), (true, 0), (false, 2), (false, 3), (false, 4), (false, 5), (false, 6), (false, 7), (false, 8), (false, 9), (false, 10)] (w2 := [oX10 a_th (.int (0 : Int32)) q_text (.int v_textSize) (.int v_place) (.ref a_question) (.int v_questionSize) (.int v_facts) (.int v_isSo) (.int v_common) (.int v_readFacts) (.int v_readSo) (.int v_readCommon) (.int v_readDay) q_page (.long v_seed) q_book q_bookSeed (.int v_acts) q_kept q_isKept (.int v_told) (.ref a_toldSimple) (.ref a_toldDay) (.ref a_toldYes) (.ref a_yesOf) (.ref a_noOf) (.ref a_factOf) (.ref a_stack) (.ref a_one) (.ref a_two) q_three, aI cI a_one 7 w16, aI cI a_toldSimple 6 v_toldSimple, aI cI a_toldDay 6 v_toldDay, aI cZ a_toldYes 6 v_toldYes, aI cI a_question 16 v_question, aI cZ a_stack 17 w17, aI cI a_yesOf 931 v_yesOf, aI cI a_noOf 931 v_noOf, aI cI a_two 7 w18, aI cI a_factOf 5 v_factOf]) rfl (by decide) (fun H locs hP hS => ?_)
        obtain rfl := Option.some.inj hm
        subst hQ
        exact W.iret hx hb hr (fun t ht hW => ⟨⟨_, (), rfl, rfl, kb_h hP ht⟩, hS.F ht⟩) hS.2.2 dX10_march_165
      · replace hm := ite_t c59 hm
        refine lv_iload_n hx hb dX10_march_154 rfl (lv_at hl 0 rfl) ?_
        refine lv_goto (tgt := 165) hx hb dX10_march_155 (by decide) ?_
        obtain rfl := Option.some.inj hm
        subst hQ
        exact W.iret hx hb hr (fun t ht hW => ⟨⟨_, (), rfl, rfl, kb_h hP ht⟩, hS.F ht⟩) hS.2.2 dX10_march_165
  · replace hm := ite_t c3 hm
    refine lv_bipush (v := (-2 : Int32)) hx hb dX10_march_17 (by decide) ?_
    obtain rfl := Option.some.inj hm
    subst hQ
    exact W.iret hx hb hr (fun t ht hW => ⟨⟨_, (), rfl, rfl, kb_h hP ht⟩, hS.F ht⟩) hS.2.2 dX10_march_19
set_option maxHeartbeats 4000000 in
set_option maxRecDepth 100000 in
theorem c_X10_divisor (l : Launch) (dC : Nat → ClassId) (dI : Nat → Nat → Nat) (cI cJ cZ cQ : ClassId) (t sz : Nat) (p_0 : Int32) (p_1 : Int32) (o : Int32) (hm : m_X10_divisor p_0 p_1 = some o) : Met l yX10_divisor wsX10_divisor { frames := 0, cells := 0, slots := 0, locals := 0 } (va_Pc [.int p_0, .int p_1] (cP (dC, dI) (kT cI cJ cZ cQ) t sz [])) (cQi (dC, dI) (va_A [] sz) o []) 0 0 (va_A [] sz) := by
  refine Met.ofW (cc := cX10_divisor) (maxL := 5) (ret := (some .int)) (by decide) rfl ?_
  intro p e s m args below meth c s₁ B hml hv
  obtain ⟨rfl, hsz, hP, hK, hD0, hG⟩ := hv
  have hx := B.exec
  have hb := B.bytes
  have hr := B.returns
  have hts := atoms_spec (ws := wsX10_divisor) B.pre
  have hown : s.vm.findClass RX10 = some m.cls := findClass_of_methodNamed B.named
  have hlocks := B.notSynchronized
  subst hsz
  have hD := hD0.self (sz := s.heap.size)
  generalize hAe : va_A [] s.heap.size = A at hD hG ⊢
  have hA : ∀ q : Nat, s.heap.size ≤ q → A q := fun q h => by rw [← hAe]; exact Or.inr h
  have hS : va_S A s.heap s.heap [] := va_S.rf
  have hl := lv_entry ([.int p_0, .int p_1]) (n := 5) (Nat.le_of_ble_eq_true rfl)
  rw [lg_entry_eq]
  generalize (lg_sl ([.int p_0, .int p_1]) ++ List.replicate (5 - (lg_sl ([.int p_0, .int p_1])).length) Slot.unset).toArray = ls at hl ⊢
  have hl : lv_has ls 5 [(0, .int p_0), (1, .int p_1)] := hl
  refine kb_gen (fun Q hQ => ?_)
  unfold m_X10_divisor at hm
  refine lv_iload_n hx hb dX10_divisor_0 rfl (lv_at hl 0 rfl) ?_
  refine lv_istore_n (lv' := [(2, .int p_0), (0, .int p_0), (1, .int p_1)]) hx hb dX10_divisor_1 rfl hl (by decide) rfl (fun ls hl => ?_)
  refine lv_iload_n hx hb dX10_divisor_2 rfl (lv_at hl 2 rfl) ?_
  refine lv_istore_n (lv' := [(3, .int p_1), (2, .int p_0), (0, .int p_0), (1, .int p_1)]) hx hb dX10_divisor_3 rfl hl (by decide) rfl (fun ls hl => ?_)
  have lp4 : ∀ (n4 : Nat) (x1 : Int32) (x2 : Int32) (k4 : Int32 → Option (Int32)) (H : Heap) (locs : List Loc) (ls : Array Slot), L_X10_divisor_4 n4 x1 x2 k4 = some o → (∀ (x3 : Int32) (H : Heap) (locs : List Loc) (ls : Array Slot), k4 x3 = some o → va_P (dC, dI) vwCl [] H → va_S A s.heap H locs → lv_has ls 5 [(2, .int x3)] → W p l e (headSpec wsX10_divisor { frames := 0, cells := 0, slots := 0, locals := 0 }).room s m [.int p_0, .int p_1].toArray below meth c H locs 0 0 Q (F0 m 21 ls [])) → va_P (dC, dI) vwCl [] H → va_S A s.heap H locs → lv_has ls 5 [(2, .int x1), (3, .int x2)] → W p l e (headSpec wsX10_divisor { frames := 0, cells := 0, slots := 0, locals := 0 }).room s m [.int p_0, .int p_1].toArray below meth c H locs 0 0 Q (F0 m 4 ls []) := by
    intro n4
    induction n4 with
    | zero =>
      intro x1 x2 k4 H locs ls hm
      cases (show (none : Option (Int32)) = some o from hm)
    | succ n4 ih4 =>
      intro x1 x2 k4 H locs ls hm hk4 hP hS hl
      rw [L_X10_divisor_4.eq_2] at hm
      refine lv_iload_n hx hb dX10_divisor_4 rfl (lv_at hl 1 rfl) ?_
      refine lv_if_eq (tgt := 21) hx hb dX10_divisor_5 (by decide) (fun c4 => ?_) (fun c4 => ?_)
      · replace hm := ite_t c4 hm
        exact hk4 x1 _ _ _ hm hP hS (lv_sub hl [0] rfl)
      · replace hm := ite_f c4 hm
        refine lv_iload_n hx hb dX10_divisor_8 rfl (lv_at hl 0 rfl) ?_
        refine lv_iload_n hx hb dX10_divisor_9 rfl (lv_at hl 1 rfl) ?_
        obtain ⟨h5, hm⟩ := gd_s hm
        refine lv_irem hx hb dX10_divisor_10 (nzB_s h5) ?_
        refine lv_topi (fun x6 ex6 => ?_)
        replace hm := nm_t ex6 hm
        refine lv_istore (lv' := [(4, .int x6), (2, .int x1), (3, .int x2)]) hx hb dX10_divisor_11 hl (by decide) rfl (fun ls hl => ?_)
        refine lv_iload_n hx hb dX10_divisor_13 rfl (lv_at hl 2 rfl) ?_
        refine lv_istore_n (lv' := [(2, .int x2), (4, .int x6), (3, .int x2)]) hx hb dX10_divisor_14 rfl hl (by decide) rfl (fun ls hl => ?_)
        refine lv_iload hx hb dX10_divisor_15 (lv_at hl 1 rfl) ?_
        refine lv_istore_n (lv' := [(3, .int x6), (2, .int x2), (4, .int x6)]) hx hb dX10_divisor_17 rfl hl (by decide) rfl (fun ls hl => ?_)
        refine lv_goto (tgt := 4) hx hb dX10_divisor_18 (by decide) ?_
        exact ih4 x2 x6 k4 _ _ _ hm hk4 hP hS (lv_sub hl [1, 0] rfl)
  refine lp4 1024 p_0 p_1 _ _ _ _ hm (fun x3 H locs ls hm hP hS hl => ?_) hP hS (lv_sub hl [1, 0] rfl)
  refine lv_iload_n hx hb dX10_divisor_21 rfl (lv_at hl 0 rfl) ?_
  obtain rfl := Option.some.inj hm
  subst hQ
  exact W.iret hx hb hr (fun t ht hW => ⟨⟨_, (), rfl, rfl, kb_h hP ht⟩, hS.F ht⟩) hS.2.2 dX10_divisor_22
set_option maxHeartbeats 4000000 in
set_option maxRecDepth 100000 in
theorem c_X10_likely (l : Launch) (dC : Nat → ClassId) (dI : Nat → Nat → Nat) (cI cJ cZ cQ : ClassId) (t sz : Nat) (a_th : Nat) (a_page : Nat) (q_text : Value) (q_question : Value) (q_book : Value) (q_bookSeed : Value) (q_kept : Value) (q_isKept : Value) (q_toldSimple : Value) (q_toldDay : Value) (q_toldYes : Value) (q_yesOf : Value) (q_noOf : Value) (q_factOf : Value) (q_stack : Value) (q_one : Value) (q_two : Value) (q_three : Value) (v_thrown : Int32) (v_textSize : Int32) (v_place : Int32) (v_questionSize : Int32) (v_facts : Int32) (v_isSo : Int32) (v_common : Int32) (v_readFacts : Int32) (v_readSo : Int32) (v_readCommon : Int32) (v_readDay : Int32) (v_seed : Int64) (v_acts : Int32) (v_told : Int32) (v_page : (Nat → Int32)) (p_1 : Int32) (p_2 : Int32) (o : Int32 × Int32) (hm : m_X10_likely p_1 p_2 v_thrown v_facts v_page = some o) : Met l yX10_likely wsX10_likely { frames := 2, cells := 0, slots := 0, locals := 46 } (va_Pc [.ref a_th, .int p_1, .int p_2] (cP (dC, dI) (kT cI cJ cZ cQ) t sz [oX10 a_th (.int v_thrown) q_text (.int v_textSize) (.int v_place) q_question (.int v_questionSize) (.int v_facts) (.int v_isSo) (.int v_common) (.int v_readFacts) (.int v_readSo) (.int v_readCommon) (.int v_readDay) (.ref a_page) (.long v_seed) q_book q_bookSeed (.int v_acts) q_kept q_isKept (.int v_told) q_toldSimple q_toldDay q_toldYes q_yesOf q_noOf q_factOf q_stack q_one q_two q_three, aI cI a_page 12 v_page])) (cQi (dC, dI) (va_A [oX10 a_th (.int v_thrown) q_text (.int v_textSize) (.int v_place) q_question (.int v_questionSize) (.int v_facts) (.int v_isSo) (.int v_common) (.int v_readFacts) (.int v_readSo) (.int v_readCommon) (.int v_readDay) (.ref a_page) (.long v_seed) q_book q_bookSeed (.int v_acts) q_kept q_isKept (.int v_told) q_toldSimple q_toldDay q_toldYes q_yesOf q_noOf q_factOf q_stack q_one q_two q_three, aI cI a_page 12 v_page] sz) o.1 [oX10 a_th (.int (o.2)) q_text (.int v_textSize) (.int v_place) q_question (.int v_questionSize) (.int v_facts) (.int v_isSo) (.int v_common) (.int v_readFacts) (.int v_readSo) (.int v_readCommon) (.int v_readDay) (.ref a_page) (.long v_seed) q_book q_bookSeed (.int v_acts) q_kept q_isKept (.int v_told) q_toldSimple q_toldDay q_toldYes q_yesOf q_noOf q_factOf q_stack q_one q_two q_three, aI cI a_page 12 v_page]) 0 0 (va_A [oX10 a_th (.int v_thrown) q_text (.int v_textSize) (.int v_place) q_question (.int v_questionSize) (.int v_facts) (.int v_isSo) (.int v_common) (.int v_readFacts) (.int v_readSo) (.int v_readCommon) (.int v_readDay) (.ref a_page) (.long v_seed) q_book q_bookSeed (.int v_acts) q_kept q_isKept (.int v_told) q_toldSimple q_toldDay q_toldYes q_yesOf q_noOf q_factOf q_stack q_one q_two q_three, aI cI a_page 12 v_page] sz) := by
  refine Met.ofW (cc := cX10_likely) (maxL := 6) (ret := (some .int)) (by decide) rfl ?_
  intro p e s m args below meth c s₁ B hml hv
  obtain ⟨rfl, hsz, hP, hK, hD0, hG⟩ := hv
  have hx := B.exec
  have hb := B.bytes
  have hr := B.returns
  have hts := atoms_spec (ws := wsX10_likely) B.pre
  have hown : s.vm.findClass RX10 = some m.cls := findClass_of_methodNamed B.named
  have hlocks := B.notSynchronized
  subst hsz
  have hD := hD0.self (sz := s.heap.size)
  generalize hAe : va_A [oX10 a_th (.int v_thrown) q_text (.int v_textSize) (.int v_place) q_question (.int v_questionSize) (.int v_facts) (.int v_isSo) (.int v_common) (.int v_readFacts) (.int v_readSo) (.int v_readCommon) (.int v_readDay) (.ref a_page) (.long v_seed) q_book q_bookSeed (.int v_acts) q_kept q_isKept (.int v_told) q_toldSimple q_toldDay q_toldYes q_yesOf q_noOf q_factOf q_stack q_one q_two q_three, aI cI a_page 12 v_page] s.heap.size = A at hD hG ⊢
  have hA : ∀ q : Nat, s.heap.size ≤ q → A q := fun q h => by rw [← hAe]; exact Or.inr h
  have hS : va_S A s.heap s.heap [] := va_S.rf
  have hl := lv_entry ([.ref a_th, .int p_1, .int p_2]) (n := 6) (Nat.le_of_ble_eq_true rfl)
  rw [lg_entry_eq]
  generalize (lg_sl ([.ref a_th, .int p_1, .int p_2]) ++ List.replicate (6 - (lg_sl ([.ref a_th, .int p_1, .int p_2])).length) Slot.unset).toArray = ls at hl ⊢
  have hl : lv_has ls 6 [(0, .ref a_th), (1, .int p_1), (2, .int p_2)] := hl
  have iX10 : ∀ w ∈ wsX100, w ∈ wsX10_likely := fun _ h => List.mem_cons_of_mem _ (List.mem_append_right _ h)
  have f66 := hts (.fieldLink RX10 66 "TrueOnceWeekModel" "thrown" "I") (by decide +kernel)
  have f102 := hts (.fieldLink RX10 102 "TrueOnceWeekModel" "facts" "I") (by decide +kernel)
  have f16 := hts (.fieldLink RX10 16 "TrueOnceWeekModel" "page" "[I") (by decide +kernel)
  refine kb_gen (fun Q hQ => ?_)
  unfold m_X10_likely at hm
  refine lv_aload_n hx hb dX10_likely_0 rfl (lv_at hl 0 rfl) ?_
  refine lv_iconst (v := (0 : Int32)) hx hb dX10_likely_1 (by decide) ?_
  refine va_put (D := (dC, dI)) (ci := 8) (v := .int (0 : Int32)) (ty := .int) (C := RX10) (T := TX10) (N := 31) hx hb hts iX10 tyX10 tyX10_ok nmX10 hown hK hP (kb_D hD rfl) hS 0 rfl rfl 0 (by decide) f66 (fun _ h9 => h9) rfl (by decide +kernel) rfl rfl (Nat.le_of_ble_eq_true rfl) dX10_likely_2 (fun H locs hP _ hS => ?_)
  have hP : va_P (dC, dI) vwCl [oX10 a_th (.int (0 : Int32)) q_text (.int v_textSize) (.int v_place) q_question (.int v_questionSize) (.int v_facts) (.int v_isSo) (.int v_common) (.int v_readFacts) (.int v_readSo) (.int v_readCommon) (.int v_readDay) (.ref a_page) (.long v_seed) q_book q_bookSeed (.int v_acts) q_kept q_isKept (.int v_told) q_toldSimple q_toldDay q_toldYes q_yesOf q_noOf q_factOf q_stack q_one q_two q_three, aI cI a_page 12 v_page] H := hP
  refine lv_aload_n hx hb dX10_likely_5 rfl (lv_at hl 0 rfl) ?_
  refine lv_iload_n hx hb dX10_likely_6 rfl (lv_at hl 1 rfl) ?_
  obtain ⟨r1, ho2, hm⟩ := bd1_s hm
  refine kb_calli (Rv := r1) (va_runV (As := [.int p_1]) (rest := []) ⟨hx, hb, hml, hown, hts⟩ (c_X10_noSimple l dC dI cI cJ cZ cQ t H.size a_th q_text q_question (.ref a_page) q_book q_bookSeed q_kept q_isKept q_toldSimple q_toldDay q_toldYes q_yesOf q_noOf q_factOf q_stack q_one q_two q_three (0 : Int32) v_textSize v_place v_questionSize v_facts v_isSo v_common v_readFacts v_readSo v_readCommon v_readDay v_seed v_acts v_told p_1 (r1) ho2) (cwV 1 hts gX10_likely_X10_noSimple rfl rfl rfl (by decide +kernel) ⟨(Nat.le_of_ble_eq_true rfl), (Nat.le_of_ble_eq_true rfl)⟩) ⟨(kb_pre hK hG hP (kb_D hD rfl) hS hA [0] rfl (by decide)).1, (va_recv hK hP (ci := 8) (q0 := 0) rfl rfl), (kb_pre hK hG hP (kb_D hD rfl) hS hA [0] rfl (by decide)).2⟩ rfl rfl hl.1 rfl (lv_room (Nat.le_of_ble_eq_true rfl)) dX10_likely_7 ⟨Nat.zero_le _, Nat.zero_le _⟩) hP (kb_D hD rfl) hS hA [0] rfl [(true, 0), (false, 1)] (w2 := [oX10 a_th (.int (0 : Int32)) q_text (.int v_textSize) (.int v_place) q_question (.int v_questionSize) (.int v_facts) (.int v_isSo) (.int v_common) (.int v_readFacts) (.int v_readSo) (.int v_readCommon) (.int v_readDay) (.ref a_page) (.long v_seed) q_book q_bookSeed (.int v_acts) q_kept q_isKept (.int v_told) q_toldSimple q_toldDay q_toldYes q_yesOf q_noOf q_factOf q_stack q_one q_two q_three, aI cI a_page 12 v_page]) rfl (by decide) (fun H locs hP hS => ?_)
  refine lv_if_ne (tgt := 24) hx hb dX10_likely_10 (by decide) (fun c3 => ?_) (fun c3 => ?_)
  · replace hm := ite_f c3 hm
    refine lv_bipush (v := (-2 : Int32)) hx hb dX10_likely_24 (by decide) ?_
    obtain rfl := Option.some.inj hm
    subst hQ
    exact W.iret hx hb hr (fun t ht hW => ⟨⟨_, (), rfl, rfl, kb_h hP ht⟩, hS.F ht⟩) hS.2.2 dX10_likely_26
  · replace hm := ite_t c3 hm
    refine lv_iload_n hx hb dX10_likely_13 rfl (lv_at hl 1 rfl) ?_
    refine lv_iconst (v := (5 : Int32)) hx hb dX10_likely_14 (by decide) ?_
    refine lv_icmp_eq (tgt := 24) hx hb dX10_likely_15 (by decide) (fun c4 => ?_) (fun c4 => ?_)
    · replace hm := ite_t c4 hm
      refine lv_bipush (v := (-2 : Int32)) hx hb dX10_likely_24 (by decide) ?_
      obtain rfl := Option.some.inj hm
      subst hQ
      exact W.iret hx hb hr (fun t ht hW => ⟨⟨_, (), rfl, rfl, kb_h hP ht⟩, hS.F ht⟩) hS.2.2 dX10_likely_26
    · replace hm := ite_f c4 hm
      refine lv_iload_n hx hb dX10_likely_18 rfl (lv_at hl 1 rfl) ?_
      refine lv_bipush (v := (12 : Int32)) hx hb dX10_likely_19 (by decide) ?_
      refine lv_icmp_le (tgt := 27) hx hb dX10_likely_21 (by decide) (fun c5 => ?_) (fun c5 => ?_)
      · replace hm := ite_t c5 hm
        refine lv_iconst (v := (0 : Int32)) hx hb dX10_likely_27 (by decide) ?_
        refine lv_istore_n (lv' := [(3, .int (0 : Int32)), (0, .ref a_th), (1, .int p_1), (2, .int p_2)]) hx hb dX10_likely_28 rfl hl (by decide) rfl (fun ls hl => ?_)
        refine lv_iconst (v := (0 : Int32)) hx hb dX10_likely_29 (by decide) ?_
        refine lv_istore (lv' := [(4, .int (0 : Int32)), (3, .int (0 : Int32)), (0, .ref a_th), (1, .int p_1), (2, .int p_2)]) hx hb dX10_likely_30 hl (by decide) rfl (fun ls hl => ?_)
        have lp32 : ∀ (n32 : Nat) (x6 : Int32) (x7 : Int32) (k32 : Int32 → Option (Int32 × Int32)) (H : Heap) (locs : List Loc) (ls : Array Slot), L_X10_likely_32 v_facts v_page p_1 n32 x6 x7 k32 = some o → (∀ (x8 : Int32) (H : Heap) (locs : List Loc) (ls : Array Slot), k32 x8 = some o → va_P (dC, dI) vwCl [oX10 a_th (.int (0 : Int32)) q_text (.int v_textSize) (.int v_place) q_question (.int v_questionSize) (.int v_facts) (.int v_isSo) (.int v_common) (.int v_readFacts) (.int v_readSo) (.int v_readCommon) (.int v_readDay) (.ref a_page) (.long v_seed) q_book q_bookSeed (.int v_acts) q_kept q_isKept (.int v_told) q_toldSimple q_toldDay q_toldYes q_yesOf q_noOf q_factOf q_stack q_one q_two q_three, aI cI a_page 12 v_page] H → va_S A s.heap H locs → lv_has ls 6 [(0, .ref a_th), (2, .int p_2), (3, .int x8)] → W p l e (headSpec wsX10_likely { frames := 2, cells := 0, slots := 0, locals := 46 }).room s m [.ref a_th, .int p_1, .int p_2].toArray below meth c H locs 0 0 Q (F0 m 114 ls [])) → va_P (dC, dI) vwCl [oX10 a_th (.int (0 : Int32)) q_text (.int v_textSize) (.int v_place) q_question (.int v_questionSize) (.int v_facts) (.int v_isSo) (.int v_common) (.int v_readFacts) (.int v_readSo) (.int v_readCommon) (.int v_readDay) (.ref a_page) (.long v_seed) q_book q_bookSeed (.int v_acts) q_kept q_isKept (.int v_told) q_toldSimple q_toldDay q_toldYes q_yesOf q_noOf q_factOf q_stack q_one q_two q_three, aI cI a_page 12 v_page] H → va_S A s.heap H locs → lv_has ls 6 [(0, .ref a_th), (1, .int p_1), (2, .int p_2), (3, .int x6), (4, .int x7)] → W p l e (headSpec wsX10_likely { frames := 2, cells := 0, slots := 0, locals := 46 }).room s m [.ref a_th, .int p_1, .int p_2].toArray below meth c H locs 0 0 Q (F0 m 32 ls []) := by
          intro n32
          induction n32 with
          | zero =>
            intro x6 x7 k32 H locs ls hm
            cases (show (none : Option (Int32 × Int32)) = some o from hm)
          | succ n32 ih32 =>
            intro x6 x7 k32 H locs ls hm hk32 hP hS hl
            rw [L_X10_likely_32.eq_2] at hm
            refine lv_iload hx hb dX10_likely_32 (lv_at hl 4 rfl) ?_
            refine lv_bipush (v := (7 : Int32)) hx hb dX10_likely_34 (by decide) ?_
            refine lv_icmp_ge (tgt := 114) hx hb dX10_likely_36 (by decide) (fun c9 => ?_) (fun c9 => ?_)
            · replace hm := ite_t c9 hm
              exact hk32 x6 _ _ _ hm hP hS (lv_sub hl [0, 2, 3] rfl)
            · replace hm := ite_f c9 hm
              refine lv_iconst (v := (0 : Int32)) hx hb dX10_likely_39 (by decide) ?_
              refine lv_istore (lv' := [(5, .int (0 : Int32)), (0, .ref a_th), (1, .int p_1), (2, .int p_2), (3, .int x6), (4, .int x7)]) hx hb dX10_likely_40 hl (by decide) rfl (fun ls hl => ?_)
              have lp42 : ∀ (n42 : Nat) (x10 : Int32) (x11 : Int32) (k42 : Int32 → Option (Int32 × Int32)) (H : Heap) (locs : List Loc) (ls : Array Slot), L_X10_likely_42 v_facts v_page p_1 x7 n42 x10 x11 k42 = some o → (∀ (x12 : Int32) (H : Heap) (locs : List Loc) (ls : Array Slot), k42 x12 = some o → va_P (dC, dI) vwCl [oX10 a_th (.int (0 : Int32)) q_text (.int v_textSize) (.int v_place) q_question (.int v_questionSize) (.int v_facts) (.int v_isSo) (.int v_common) (.int v_readFacts) (.int v_readSo) (.int v_readCommon) (.int v_readDay) (.ref a_page) (.long v_seed) q_book q_bookSeed (.int v_acts) q_kept q_isKept (.int v_told) q_toldSimple q_toldDay q_toldYes q_yesOf q_noOf q_factOf q_stack q_one q_two q_three, aI cI a_page 12 v_page] H → va_S A s.heap H locs → lv_has ls 6 [(0, .ref a_th), (1, .int p_1), (2, .int p_2), (3, .int x12), (4, .int x7)] → W p l e (headSpec wsX10_likely { frames := 2, cells := 0, slots := 0, locals := 46 }).room s m [.ref a_th, .int p_1, .int p_2].toArray below meth c H locs 0 0 Q (F0 m 108 ls [])) → va_P (dC, dI) vwCl [oX10 a_th (.int (0 : Int32)) q_text (.int v_textSize) (.int v_place) q_question (.int v_questionSize) (.int v_facts) (.int v_isSo) (.int v_common) (.int v_readFacts) (.int v_readSo) (.int v_readCommon) (.int v_readDay) (.ref a_page) (.long v_seed) q_book q_bookSeed (.int v_acts) q_kept q_isKept (.int v_told) q_toldSimple q_toldDay q_toldYes q_yesOf q_noOf q_factOf q_stack q_one q_two q_three, aI cI a_page 12 v_page] H → va_S A s.heap H locs → lv_has ls 6 [(0, .ref a_th), (1, .int p_1), (2, .int p_2), (3, .int x10), (4, .int x7), (5, .int x11)] → W p l e (headSpec wsX10_likely { frames := 2, cells := 0, slots := 0, locals := 46 }).room s m [.ref a_th, .int p_1, .int p_2].toArray below meth c H locs 0 0 Q (F0 m 42 ls []) := by
                intro n42
                induction n42 with
                | zero =>
                  intro x10 x11 k42 H locs ls hm
                  cases (show (none : Option (Int32 × Int32)) = some o from hm)
                | succ n42 ih42 =>
                  intro x10 x11 k42 H locs ls hm hk42 hP hS hl
                  rw [L_X10_likely_42.eq_2] at hm
                  refine lv_iload hx hb dX10_likely_42 (lv_at hl 5 rfl) ?_
                  refine lv_iconst (v := (1 : Int32)) hx hb dX10_likely_44 (by decide) ?_
                  refine lv_aload_n hx hb dX10_likely_45 rfl (lv_at hl 0 rfl) ?_
                  refine va_get (D := (dC, dI)) (ci := 8) (v := .int v_facts) (C := RX10) (T := TX10) (N := 31) hx hb hts iX10 hown hK hP 0 rfl rfl 6 (by decide) f102 (fun _ h9 => h9) rfl dX10_likely_46 ?_
                  refine lv_ishl hx hb dX10_likely_49 ?_
                  refine lv_icmp_ge (tgt := 108) hx hb dX10_likely_50 (by decide) (fun c13 => ?_) (fun c13 => ?_)
                  · replace hm := ite_t c13 hm
                    exact hk42 x10 _ _ _ hm hP hS (lv_sub hl [0, 1, 2, 3, 4] rfl)
                  · replace hm := ite_f c13 hm
                    refine lv_iload_n hx hb dX10_likely_53 rfl (lv_at hl 3 rfl) ?_
                    refine lv_aload_n hx hb dX10_likely_54 rfl (lv_at hl 0 rfl) ?_
                    refine va_get (D := (dC, dI)) (ci := 8) (v := .ref a_page) (C := RX10) (T := TX10) (N := 31) hx hb hts iX10 hown hK hP 0 rfl rfl 13 (by decide) f16 (fun _ h9 => h9) rfl dX10_likely_55 ?_
                    refine lv_iload hx hb dX10_likely_58 (lv_at hl 4 rfl) ?_
                    obtain ⟨h14, hm⟩ := gd_s hm
                    refine va_iald hx hb hK hP 1 0 rfl rfl (inB_s h14) dX10_likely_60 ?_
                    refine lv_iload hx hb dX10_likely_61 (lv_at hl 5 rfl) ?_
                    obtain ⟨r15, ho16, hm⟩ := bd1_s hm
                    refine kb_calli (Rv := r15) (va_runS (As := [.int (v_page (Int32.toNatClampNeg x7)), .int x11]) (rest := [.int x10]) ⟨hx, hb, hml, hown, hts⟩ (c_X10_has l dC dI cI cJ cZ cQ t H.size (v_page (Int32.toNatClampNeg x7)) x11 (r15) ho16) (va_cwS 2 hts gX10_likely_X10_has rfl rfl rfl (by decide +kernel) ⟨(Nat.le_of_ble_eq_true rfl), (Nat.le_of_ble_eq_true rfl)⟩) (kb_pre hK hG hP (kb_D hD rfl) hS hA [] rfl (by decide)) rfl rfl hl.1 rfl (lv_room (Nat.le_of_ble_eq_true rfl)) dX10_likely_63 ⟨Nat.zero_le _, Nat.zero_le _⟩) hP (kb_D hD rfl) hS hA [] rfl [(false, 0), (false, 1)] (w2 := [oX10 a_th (.int (0 : Int32)) q_text (.int v_textSize) (.int v_place) q_question (.int v_questionSize) (.int v_facts) (.int v_isSo) (.int v_common) (.int v_readFacts) (.int v_readSo) (.int v_readCommon) (.int v_readDay) (.ref a_page) (.long v_seed) q_book q_bookSeed (.int v_acts) q_kept q_isKept (.int v_told) q_toldSimple q_toldDay q_toldYes q_yesOf q_noOf q_factOf q_stack q_one q_two q_three, aI cI a_page 12 v_page]) rfl (by decide) (fun H locs hP hS => ?_)
                    obtain ⟨k100, ek100, hm⟩ := nm_s hm
                    have J100 : ∀ (x17 : Int32) (H : Heap) (locs : List Loc) (ls : Array Slot), k100 x17 = some o → va_P (dC, dI) vwCl [oX10 a_th (.int (0 : Int32)) q_text (.int v_textSize) (.int v_place) q_question (.int v_questionSize) (.int v_facts) (.int v_isSo) (.int v_common) (.int v_readFacts) (.int v_readSo) (.int v_readCommon) (.int v_readDay) (.ref a_page) (.long v_seed) q_book q_bookSeed (.int v_acts) q_kept q_isKept (.int v_told) q_toldSimple q_toldDay q_toldYes q_yesOf q_noOf q_factOf q_stack q_one q_two q_three, aI cI a_page 12 v_page] H → va_S A s.heap H locs → lv_has ls 6 [(0, .ref a_th), (1, .int p_1), (2, .int p_2), (4, .int x7), (5, .int x11)] → W p l e (headSpec wsX10_likely { frames := 2, cells := 0, slots := 0, locals := 46 }).room s m [.ref a_th, .int p_1, .int p_2].toArray below meth c H locs 0 0 Q (F0 m 100 ls [.int x17, .int x10]) := by
                      intro x17 H locs ls hm hP hS hl
                      rw [ek100] at hm
                      refine lv_iadd hx hb dX10_likely_100 ?_
                      refine lv_topi (fun x18 ex18 => ?_)
                      replace hm := nm_t ex18 hm
                      refine lv_istore_n (lv' := [(3, .int x18), (0, .ref a_th), (1, .int p_1), (2, .int p_2), (4, .int x7), (5, .int x11)]) hx hb dX10_likely_101 rfl hl (by decide) rfl (fun ls hl => ?_)
                      obtain ⟨x19, ex19⟩ : ∃ y : Int32, y = x11 + (1 : Int32) := ⟨_, rfl⟩
                      replace hm := nm_t ex19 hm
                      refine lv_iinc (v := x19) (lv' := [(5, .int x19), (3, .int x18), (0, .ref a_th), (1, .int p_1), (2, .int p_2), (4, .int x7)]) hx hb dX10_likely_102 hl (k := 5) rfl (by rw [ex19]; rfl) (by decide) rfl (fun ls hl => ?_)
                      refine lv_goto (tgt := 42) hx hb dX10_likely_105 (by decide) ?_
                      exact ih42 x18 x19 k42 _ _ _ hm hk42 hP hS (lv_sub hl [2, 3, 4, 1, 5, 0] rfl)
                    obtain ⟨k99, ek99, hm⟩ := nm_s hm
                    have J99 : ∀ (H : Heap) (locs : List Loc) (ls : Array Slot), k99 = some o → va_P (dC, dI) vwCl [oX10 a_th (.int (0 : Int32)) q_text (.int v_textSize) (.int v_place) q_question (.int v_questionSize) (.int v_facts) (.int v_isSo) (.int v_common) (.int v_readFacts) (.int v_readSo) (.int v_readCommon) (.int v_readDay) (.ref a_page) (.long v_seed) q_book q_bookSeed (.int v_acts) q_kept q_isKept (.int v_told) q_toldSimple q_toldDay q_toldYes q_yesOf q_noOf q_factOf q_stack q_one q_two q_three, aI cI a_page 12 v_page] H → va_S A s.heap H locs → lv_has ls 6 [(0, .ref a_th), (1, .int p_1), (2, .int p_2), (4, .int x7), (5, .int x11)] → W p l e (headSpec wsX10_likely { frames := 2, cells := 0, slots := 0, locals := 46 }).room s m [.ref a_th, .int p_1, .int p_2].toArray below meth c H locs 0 0 Q (F0 m 99 ls [.int x10]) := by
                      intro  H locs ls hm hP hS hl
                      rw [ek99] at hm
                      refine lv_iconst (v := (0 : Int32)) hx hb dX10_likely_99 (by decide) ?_
                      exact J100 (0 : Int32) _ _ _ hm hP hS (lv_sub hl [0, 1, 2, 3, 4] rfl)
                    refine lv_if_eq (tgt := 99) hx hb dX10_likely_66 (by decide) (fun c20 => ?_) (fun c20 => ?_)
                    · replace hm := ite_t c20 hm
                      exact J99  _ _ _ hm hP hS (lv_sub hl [0, 1, 2, 4, 5] rfl)
                    · replace hm := ite_f c20 hm
                      refine lv_iload_n hx hb dX10_likely_69 rfl (lv_at hl 1 rfl) ?_
                      refine lv_iconst (v := (5 : Int32)) hx hb dX10_likely_70 (by decide) ?_
                      obtain ⟨k95, ek95, hm⟩ := nm_s hm
                      have J95 : ∀ (H : Heap) (locs : List Loc) (ls : Array Slot), k95 = some o → va_P (dC, dI) vwCl [oX10 a_th (.int (0 : Int32)) q_text (.int v_textSize) (.int v_place) q_question (.int v_questionSize) (.int v_facts) (.int v_isSo) (.int v_common) (.int v_readFacts) (.int v_readSo) (.int v_readCommon) (.int v_readDay) (.ref a_page) (.long v_seed) q_book q_bookSeed (.int v_acts) q_kept q_isKept (.int v_told) q_toldSimple q_toldDay q_toldYes q_yesOf q_noOf q_factOf q_stack q_one q_two q_three, aI cI a_page 12 v_page] H → va_S A s.heap H locs → lv_has ls 6 [(0, .ref a_th), (1, .int p_1), (2, .int p_2), (4, .int x7), (5, .int x11)] → W p l e (headSpec wsX10_likely { frames := 2, cells := 0, slots := 0, locals := 46 }).room s m [.ref a_th, .int p_1, .int p_2].toArray below meth c H locs 0 0 Q (F0 m 95 ls [.int x10]) := by
                        intro  H locs ls hm hP hS hl
                        rw [ek95] at hm
                        refine lv_iconst (v := (1 : Int32)) hx hb dX10_likely_95 (by decide) ?_
                        refine lv_goto (tgt := 100) hx hb dX10_likely_96 (by decide) ?_
                        exact J100 (1 : Int32) _ _ _ hm hP hS (lv_sub hl [0, 1, 2, 3, 4] rfl)
                      refine lv_icmp_ge (tgt := 86) hx hb dX10_likely_71 (by decide) (fun c21 => ?_) (fun c21 => ?_)
                      · replace hm := ite_t c21 hm
                        refine lv_iload hx hb dX10_likely_86 (lv_at hl 4 rfl) ?_
                        refine lv_iload_n hx hb dX10_likely_88 rfl (lv_at hl 1 rfl) ?_
                        refine lv_bipush (v := (6 : Int32)) hx hb dX10_likely_89 (by decide) ?_
                        refine lv_isub hx hb dX10_likely_91 ?_
                        refine lv_icmp_ne (tgt := 99) hx hb dX10_likely_92 (by decide) (fun c22 => ?_) (fun c22 => ?_)
                        · replace hm := ite_f c22 hm
                          exact J99  _ _ _ hm hP hS (lv_sub hl [0, 1, 2, 4, 5] rfl)
                        · replace hm := ite_t c22 hm
                          exact J95  _ _ _ hm hP hS (lv_sub hl [0, 1, 2, 4, 5] rfl)
                      · replace hm := ite_f c21 hm
                        refine lv_iload hx hb dX10_likely_74 (lv_at hl 5 rfl) ?_
                        refine lv_iload_n hx hb dX10_likely_76 rfl (lv_at hl 1 rfl) ?_
                        obtain ⟨r23, ho24, hm⟩ := bd1_s hm
                        refine kb_calli (Rv := r23) (va_runS (As := [.int x11, .int p_1]) (rest := [.int x10]) ⟨hx, hb, hml, hown, hts⟩ (c_X10_has l dC dI cI cJ cZ cQ t H.size x11 p_1 (r23) ho24) (va_cwS 2 hts gX10_likely_X10_has rfl rfl rfl (by decide +kernel) ⟨(Nat.le_of_ble_eq_true rfl), (Nat.le_of_ble_eq_true rfl)⟩) (kb_pre hK hG hP (kb_D hD rfl) hS hA [] rfl (by decide)) rfl rfl hl.1 rfl (lv_room (Nat.le_of_ble_eq_true rfl)) dX10_likely_77 ⟨Nat.zero_le _, Nat.zero_le _⟩) hP (kb_D hD rfl) hS hA [] rfl [(false, 0), (false, 1)] (w2 := [oX10 a_th (.int (0 : Int32)) q_text (.int v_textSize) (.int v_place) q_question (.int v_questionSize) (.int v_facts) (.int v_isSo) (.int v_common) (.int v_readFacts) (.int v_readSo) (.int v_readCommon) (.int v_readDay) (.ref a_page) (.long v_seed) q_book q_bookSeed (.int v_acts) q_kept q_isKept (.int v_told) q_toldSimple q_toldDay q_toldYes q_yesOf q_noOf q_factOf q_stack q_one q_two q_three, aI cI a_page 12 v_page]) rfl (by decide) (fun H locs hP hS => ?_)
                        refine lv_if_eq (tgt := 99) hx hb dX10_likely_80 (by decide) (fun c25 => ?_) (fun c25 => ?_)
                        · replace hm := ite_t c25 hm
                          exact J99  _ _ _ hm hP hS (lv_sub hl [0, 1, 2, 4, 5] rfl)
                        · replace hm := ite_f c25 hm
                          refine lv_goto (tgt := 95) hx hb dX10_likely_83 (by decide) ?_
                          exact J95  _ _ _ hm hP hS (lv_sub hl [0, 1, 2, 4, 5] rfl)
              refine lp42 1024 x6 (0 : Int32) _ _ _ _ hm (fun x12 H locs ls hm hP hS hl => ?_) hP hS (lv_sub hl [1, 2, 3, 4, 5, 0] rfl)
              obtain ⟨x26, ex26⟩ : ∃ y : Int32, y = x7 + (1 : Int32) := ⟨_, rfl⟩
              replace hm := nm_t ex26 hm
              refine lv_iinc (v := x26) (lv' := [(4, .int x26), (0, .ref a_th), (1, .int p_1), (2, .int p_2), (3, .int x12)]) hx hb dX10_likely_108 hl (k := 4) rfl (by rw [ex26]; rfl) (by decide) rfl (fun ls hl => ?_)
              refine lv_goto (tgt := 32) hx hb dX10_likely_111 (by decide) ?_
              exact ih32 x12 x26 k32 _ _ _ hm hk32 hP hS (lv_sub hl [1, 2, 3, 4, 0] rfl)
        refine lp32 1024 (0 : Int32) (0 : Int32) _ _ _ _ hm (fun x8 H locs ls hm hP hS hl => ?_) hP hS (lv_sub hl [2, 3, 4, 1, 0] rfl)
        refine lv_iload_n hx hb dX10_likely_114 rfl (lv_at hl 2 rfl) ?_
        refine lv_aload_n hx hb dX10_likely_115 rfl (lv_at hl 0 rfl) ?_
        refine va_get (D := (dC, dI)) (ci := 8) (v := .ref a_page) (C := RX10) (T := TX10) (N := 31) hx hb hts iX10 hown hK hP 0 rfl rfl 13 (by decide) f16 (fun _ h9 => h9) rfl dX10_likely_116 ?_
        obtain ⟨r27, ho28, hm⟩ := bd1_s hm
        refine kb_calli (Rv := r27) (va_runS (As := [.ref a_page]) (rest := [.int x8]) ⟨hx, hb, hml, hown, hts⟩ (c_X10_knownMany l dC dI cI cJ cZ cQ t H.size a_page 12 v_page (r27) ho28) (va_cwS 1 hts gX10_likely_X10_knownMany rfl rfl rfl (by decide +kernel) ⟨(Nat.le_of_ble_eq_true rfl), (Nat.le_of_ble_eq_true rfl)⟩) (kb_pre hK hG hP (kb_D hD rfl) hS hA [1] rfl (by decide)) rfl rfl hl.1 rfl (lv_room (Nat.le_of_ble_eq_true rfl)) dX10_likely_119 ⟨Nat.zero_le _, Nat.zero_le _⟩) hP (kb_D hD rfl) hS hA [1] rfl [(false, 0), (true, 0)] (w2 := [oX10 a_th (.int (0 : Int32)) q_text (.int v_textSize) (.int v_place) q_question (.int v_questionSize) (.int v_facts) (.int v_isSo) (.int v_common) (.int v_readFacts) (.int v_readSo) (.int v_readCommon) (.int v_readDay) (.ref a_page) (.long v_seed) q_book q_bookSeed (.int v_acts) q_kept q_isKept (.int v_told) q_toldSimple q_toldDay q_toldYes q_yesOf q_noOf q_factOf q_stack q_one q_two q_three, aI cI a_page 12 v_page]) rfl (by decide) (fun H locs hP hS => ?_)
        obtain ⟨r29, ho30, hm⟩ := bd1_s hm
        refine kb_calli (Rv := r29) (va_runS (As := [.int x8, .int r27]) (rest := []) ⟨hx, hb, hml, hown, hts⟩ (c_X10_divisor l dC dI cI cJ cZ cQ t H.size x8 r27 (r29) ho30) (va_cwS 2 hts gX10_likely_X10_divisor rfl rfl rfl (by decide +kernel) ⟨(Nat.le_of_ble_eq_true rfl), (Nat.le_of_ble_eq_true rfl)⟩) (kb_pre hK hG hP (kb_D hD rfl) hS hA [] rfl (by decide)) rfl rfl hl.1 rfl (lv_room (Nat.le_of_ble_eq_true rfl)) dX10_likely_122 ⟨Nat.zero_le _, Nat.zero_le _⟩) hP (kb_D hD rfl) hS hA [] rfl [(false, 0), (false, 1)] (w2 := [oX10 a_th (.int (0 : Int32)) q_text (.int v_textSize) (.int v_place) q_question (.int v_questionSize) (.int v_facts) (.int v_isSo) (.int v_common) (.int v_readFacts) (.int v_readSo) (.int v_readCommon) (.int v_readDay) (.ref a_page) (.long v_seed) q_book q_bookSeed (.int v_acts) q_kept q_isKept (.int v_told) q_toldSimple q_toldDay q_toldYes q_yesOf q_noOf q_factOf q_stack q_one q_two q_three, aI cI a_page 12 v_page]) rfl (by decide) (fun H locs hP hS => ?_)
        refine lv_istore (lv' := [(4, .int r29), (0, .ref a_th), (2, .int p_2), (3, .int x8)]) hx hb dX10_likely_125 hl (by decide) rfl (fun ls hl => ?_)
        refine lv_iload_n hx hb dX10_likely_127 rfl (lv_at hl 2 rfl) ?_
        refine lv_if_eq (tgt := 138) hx hb dX10_likely_128 (by decide) (fun c31 => ?_) (fun c31 => ?_)
        · replace hm := ite_t c31 hm
          refine lv_aload_n hx hb dX10_likely_138 rfl (lv_at hl 1 rfl) ?_
          refine va_get (D := (dC, dI)) (ci := 8) (v := .ref a_page) (C := RX10) (T := TX10) (N := 31) hx hb hts iX10 hown hK hP 0 rfl rfl 13 (by decide) f16 (fun _ h9 => h9) rfl dX10_likely_139 ?_
          obtain ⟨r32, ho33, hm⟩ := bd1_s hm
          refine kb_calli (Rv := r32) (va_runS (As := [.ref a_page]) (rest := []) ⟨hx, hb, hml, hown, hts⟩ (c_X10_knownMany l dC dI cI cJ cZ cQ t H.size a_page 12 v_page (r32) ho33) (va_cwS 1 hts gX10_likely_X10_knownMany rfl rfl rfl (by decide +kernel) ⟨(Nat.le_of_ble_eq_true rfl), (Nat.le_of_ble_eq_true rfl)⟩) (kb_pre hK hG hP (kb_D hD rfl) hS hA [1] rfl (by decide)) rfl rfl hl.1 rfl (lv_room (Nat.le_of_ble_eq_true rfl)) dX10_likely_142 ⟨Nat.zero_le _, Nat.zero_le _⟩) hP (kb_D hD rfl) hS hA [1] rfl [(false, 0), (true, 0)] (w2 := [oX10 a_th (.int (0 : Int32)) q_text (.int v_textSize) (.int v_place) q_question (.int v_questionSize) (.int v_facts) (.int v_isSo) (.int v_common) (.int v_readFacts) (.int v_readSo) (.int v_readCommon) (.int v_readDay) (.ref a_page) (.long v_seed) q_book q_bookSeed (.int v_acts) q_kept q_isKept (.int v_told) q_toldSimple q_toldDay q_toldYes q_yesOf q_noOf q_factOf q_stack q_one q_two q_three, aI cI a_page 12 v_page]) rfl (by decide) (fun H locs hP hS => ?_)
          refine lv_iload hx hb dX10_likely_145 (lv_at hl 0 rfl) ?_
          obtain ⟨h34, hm⟩ := gd_s hm
          refine lv_idiv hx hb dX10_likely_147 (nzB_s h34) ?_
          obtain rfl := Option.some.inj hm
          subst hQ
          exact W.iret hx hb hr (fun t ht hW => ⟨⟨_, (), rfl, rfl, kb_h hP ht⟩, hS.F ht⟩) hS.2.2 dX10_likely_148
        · replace hm := ite_f c31 hm
          refine lv_iload_n hx hb dX10_likely_131 rfl (lv_at hl 3 rfl) ?_
          refine lv_iload hx hb dX10_likely_132 (lv_at hl 0 rfl) ?_
          obtain ⟨h35, hm⟩ := gd_s hm
          refine lv_idiv hx hb dX10_likely_134 (nzB_s h35) ?_
          refine lv_goto (tgt := 148) hx hb dX10_likely_135 (by decide) ?_
          obtain rfl := Option.some.inj hm
          subst hQ
          exact W.iret hx hb hr (fun t ht hW => ⟨⟨_, (), rfl, rfl, kb_h hP ht⟩, hS.F ht⟩) hS.2.2 dX10_likely_148
      · replace hm := ite_f c5 hm
        refine lv_bipush (v := (-2 : Int32)) hx hb dX10_likely_24 (by decide) ?_
        obtain rfl := Option.some.inj hm
        subst hQ
        exact W.iret hx hb hr (fun t ht hW => ⟨⟨_, (), rfl, rfl, kb_h hP ht⟩, hS.F ht⟩) hS.2.2 dX10_likely_26
set_option maxHeartbeats 4000000 in
set_option maxRecDepth 100000 in
theorem c_X10_seed (l : Launch) (dC : Nat → ClassId) (dI : Nat → Nat → Nat) (cI cJ cZ cQ : ClassId) (t sz : Nat) (a_th : Nat) (q_text : Value) (q_question : Value) (q_page : Value) (q_book : Value) (q_bookSeed : Value) (q_kept : Value) (q_isKept : Value) (q_toldSimple : Value) (q_toldDay : Value) (q_toldYes : Value) (q_yesOf : Value) (q_noOf : Value) (q_factOf : Value) (q_stack : Value) (q_one : Value) (q_two : Value) (q_three : Value) (v_thrown : Int32) (v_textSize : Int32) (v_place : Int32) (v_questionSize : Int32) (v_facts : Int32) (v_isSo : Int32) (v_common : Int32) (v_readFacts : Int32) (v_readSo : Int32) (v_readCommon : Int32) (v_readDay : Int32) (v_seed : Int64) (v_acts : Int32) (v_told : Int32) (p_1 : Int64) (o : Int64 × Int32 × Int64) (hm : m_X10_seed p_1 v_thrown v_seed = some o) : Met l yX10_seed wsX10_seed { frames := 0, cells := 0, slots := 0, locals := 0 } (va_Pc [.ref a_th, .long p_1] (cP (dC, dI) (kT cI cJ cZ cQ) t sz [oX10 a_th (.int v_thrown) q_text (.int v_textSize) (.int v_place) q_question (.int v_questionSize) (.int v_facts) (.int v_isSo) (.int v_common) (.int v_readFacts) (.int v_readSo) (.int v_readCommon) (.int v_readDay) q_page (.long v_seed) q_book q_bookSeed (.int v_acts) q_kept q_isKept (.int v_told) q_toldSimple q_toldDay q_toldYes q_yesOf q_noOf q_factOf q_stack q_one q_two q_three])) (cQl (dC, dI) (va_A [oX10 a_th (.int v_thrown) q_text (.int v_textSize) (.int v_place) q_question (.int v_questionSize) (.int v_facts) (.int v_isSo) (.int v_common) (.int v_readFacts) (.int v_readSo) (.int v_readCommon) (.int v_readDay) q_page (.long v_seed) q_book q_bookSeed (.int v_acts) q_kept q_isKept (.int v_told) q_toldSimple q_toldDay q_toldYes q_yesOf q_noOf q_factOf q_stack q_one q_two q_three] sz) o.1 [oX10 a_th (.int (o.2.1)) q_text (.int v_textSize) (.int v_place) q_question (.int v_questionSize) (.int v_facts) (.int v_isSo) (.int v_common) (.int v_readFacts) (.int v_readSo) (.int v_readCommon) (.int v_readDay) q_page (.long (o.2.2)) q_book q_bookSeed (.int v_acts) q_kept q_isKept (.int v_told) q_toldSimple q_toldDay q_toldYes q_yesOf q_noOf q_factOf q_stack q_one q_two q_three]) 0 0 (va_A [oX10 a_th (.int v_thrown) q_text (.int v_textSize) (.int v_place) q_question (.int v_questionSize) (.int v_facts) (.int v_isSo) (.int v_common) (.int v_readFacts) (.int v_readSo) (.int v_readCommon) (.int v_readDay) q_page (.long v_seed) q_book q_bookSeed (.int v_acts) q_kept q_isKept (.int v_told) q_toldSimple q_toldDay q_toldYes q_yesOf q_noOf q_factOf q_stack q_one q_two q_three] sz) := by
  refine Met.ofW (cc := cX10_seed) (maxL := 5) (ret := (some .long)) (by decide) rfl ?_
  intro p e s m args below meth c s₁ B hml hv
  obtain ⟨rfl, hsz, hP, hK, hD0, hG⟩ := hv
  have hx := B.exec
  have hb := B.bytes
  have hr := B.returns
  have hts := atoms_spec (ws := wsX10_seed) B.pre
  have hown : s.vm.findClass RX10 = some m.cls := findClass_of_methodNamed B.named
  have hlocks := B.notSynchronized
  subst hsz
  have hD := hD0.self (sz := s.heap.size)
  generalize hAe : va_A [oX10 a_th (.int v_thrown) q_text (.int v_textSize) (.int v_place) q_question (.int v_questionSize) (.int v_facts) (.int v_isSo) (.int v_common) (.int v_readFacts) (.int v_readSo) (.int v_readCommon) (.int v_readDay) q_page (.long v_seed) q_book q_bookSeed (.int v_acts) q_kept q_isKept (.int v_told) q_toldSimple q_toldDay q_toldYes q_yesOf q_noOf q_factOf q_stack q_one q_two q_three] s.heap.size = A at hD hG ⊢
  have hA : ∀ q : Nat, s.heap.size ≤ q → A q := fun q h => by rw [← hAe]; exact Or.inr h
  have hS : va_S A s.heap s.heap [] := va_S.rf
  have hl := lv_entry ([.ref a_th, .long p_1]) (n := 5) (Nat.le_of_ble_eq_true rfl)
  rw [lg_entry_eq]
  generalize (lg_sl ([.ref a_th, .long p_1]) ++ List.replicate (5 - (lg_sl ([.ref a_th, .long p_1])).length) Slot.unset).toArray = ls at hl ⊢
  have hl : lv_has ls 5 [(0, .ref a_th), (1, .long p_1)] := hl
  have iX10 : ∀ w ∈ wsX100, w ∈ wsX10_seed := fun _ h => List.mem_cons_of_mem _ (List.mem_append_right _ h)
  have f66 := hts (.fieldLink RX10 66 "TrueOnceWeekModel" "thrown" "I") (by decide +kernel)
  have f168 := hts (.fieldLink RX10 168 "TrueOnceWeekModel" "seed" "J") (by decide +kernel)
  refine kb_gen (fun Q hQ => ?_)
  unfold m_X10_seed at hm
  refine lv_aload_n hx hb dX10_seed_0 rfl (lv_at hl 0 rfl) ?_
  refine lv_iconst (v := (0 : Int32)) hx hb dX10_seed_1 (by decide) ?_
  refine va_put (D := (dC, dI)) (ci := 8) (v := .int (0 : Int32)) (ty := .int) (C := RX10) (T := TX10) (N := 31) hx hb hts iX10 tyX10 tyX10_ok nmX10 hown hK hP (kb_D hD rfl) hS 0 rfl rfl 0 (by decide) f66 (fun _ h9 => h9) rfl (by decide +kernel) rfl rfl (Nat.le_of_ble_eq_true rfl) dX10_seed_2 (fun H locs hP _ hS => ?_)
  have hP : va_P (dC, dI) vwCl [oX10 a_th (.int (0 : Int32)) q_text (.int v_textSize) (.int v_place) q_question (.int v_questionSize) (.int v_facts) (.int v_isSo) (.int v_common) (.int v_readFacts) (.int v_readSo) (.int v_readCommon) (.int v_readDay) q_page (.long v_seed) q_book q_bookSeed (.int v_acts) q_kept q_isKept (.int v_told) q_toldSimple q_toldDay q_toldYes q_yesOf q_noOf q_factOf q_stack q_one q_two q_three] H := hP
  refine lv_aload_n hx hb dX10_seed_5 rfl (lv_at hl 0 rfl) ?_
  refine va_get (D := (dC, dI)) (ci := 8) (v := .long v_seed) (C := RX10) (T := TX10) (N := 31) hx hb hts iX10 hown hK hP 0 rfl rfl 14 (by decide) f168 (fun _ h9 => h9) rfl dX10_seed_6 ?_
  refine lv_lstore_n (lv' := [(3, .long v_seed), (0, .ref a_th), (1, .long p_1)]) hx hb dX10_seed_9 rfl hl (by decide) rfl (fun ls hl => ?_)
  refine lv_aload_n hx hb dX10_seed_10 rfl (lv_at hl 1 rfl) ?_
  refine lv_lload_n hx hb dX10_seed_11 rfl (lv_at hl 2 rfl) ?_
  refine va_put (D := (dC, dI)) (ci := 8) (v := .long p_1) (ty := .long) (C := RX10) (T := TX10) (N := 31) hx hb hts iX10 tyX10 tyX10_ok nmX10 hown hK hP (kb_D hD rfl) hS 0 rfl rfl 14 (by decide) f168 (fun _ h9 => h9) rfl (by decide +kernel) rfl rfl (Nat.le_of_ble_eq_true rfl) dX10_seed_12 (fun H locs hP _ hS => ?_)
  have hP : va_P (dC, dI) vwCl [oX10 a_th (.int (0 : Int32)) q_text (.int v_textSize) (.int v_place) q_question (.int v_questionSize) (.int v_facts) (.int v_isSo) (.int v_common) (.int v_readFacts) (.int v_readSo) (.int v_readCommon) (.int v_readDay) q_page (.long p_1) q_book q_bookSeed (.int v_acts) q_kept q_isKept (.int v_told) q_toldSimple q_toldDay q_toldYes q_yesOf q_noOf q_factOf q_stack q_one q_two q_three] H := hP
  refine lv_lload_n hx hb dX10_seed_15 rfl (lv_at hl 0 rfl) ?_
  obtain rfl := Option.some.inj hm
  subst hQ
  exact W.lret hx hb hr (fun t ht hW => ⟨⟨_, (), rfl, rfl, kb_h hP ht⟩, hS.F ht⟩) hS.2.2 dX10_seed_16
set_option maxHeartbeats 4000000 in
set_option maxRecDepth 100000 in
theorem c_X10_year (l : Launch) (dC : Nat → ClassId) (dI : Nat → Nat → Nat) (cI cJ cZ cQ : ClassId) (t sz : Nat) (a_th : Nat) (a_question : Nat) (a_page : Nat) (a_stack : Nat) (q_text : Value) (q_book : Value) (q_bookSeed : Value) (q_kept : Value) (q_isKept : Value) (q_toldSimple : Value) (q_toldDay : Value) (q_toldYes : Value) (q_yesOf : Value) (q_noOf : Value) (q_factOf : Value) (q_one : Value) (q_two : Value) (q_three : Value) (v_thrown : Int32) (v_textSize : Int32) (v_place : Int32) (v_questionSize : Int32) (v_facts : Int32) (v_isSo : Int32) (v_common : Int32) (v_readFacts : Int32) (v_readSo : Int32) (v_readCommon : Int32) (v_readDay : Int32) (v_seed : Int64) (v_acts : Int32) (v_told : Int32) (v_question : (Nat → Int32)) (v_page : (Nat → Int32)) (v_stack : (Nat → Int32)) (p_1 : Int32) (o : Int32 × Int32 × Int64 × (Nat → Int32)) (hm : m_X10_year p_1 v_thrown v_questionSize v_facts v_isSo v_seed v_question v_page v_stack = some o) : Met l yX10_year wsX10_year { frames := 4, cells := 0, slots := 0, locals := 104 } (va_Pc [.ref a_th, .int p_1] (cP (dC, dI) (kT cI cJ cZ cQ) t sz [oX10 a_th (.int v_thrown) q_text (.int v_textSize) (.int v_place) (.ref a_question) (.int v_questionSize) (.int v_facts) (.int v_isSo) (.int v_common) (.int v_readFacts) (.int v_readSo) (.int v_readCommon) (.int v_readDay) (.ref a_page) (.long v_seed) q_book q_bookSeed (.int v_acts) q_kept q_isKept (.int v_told) q_toldSimple q_toldDay q_toldYes q_yesOf q_noOf q_factOf (.ref a_stack) q_one q_two q_three, aI cI a_question 16 v_question, aI cI a_page 12 v_page, aI cZ a_stack 17 v_stack])) (cQi (dC, dI) (va_A [oX10 a_th (.int v_thrown) q_text (.int v_textSize) (.int v_place) (.ref a_question) (.int v_questionSize) (.int v_facts) (.int v_isSo) (.int v_common) (.int v_readFacts) (.int v_readSo) (.int v_readCommon) (.int v_readDay) (.ref a_page) (.long v_seed) q_book q_bookSeed (.int v_acts) q_kept q_isKept (.int v_told) q_toldSimple q_toldDay q_toldYes q_yesOf q_noOf q_factOf (.ref a_stack) q_one q_two q_three, aI cI a_question 16 v_question, aI cI a_page 12 v_page, aI cZ a_stack 17 v_stack] sz) o.1 [oX10 a_th (.int (o.2.1)) q_text (.int v_textSize) (.int v_place) (.ref a_question) (.int v_questionSize) (.int v_facts) (.int v_isSo) (.int v_common) (.int v_readFacts) (.int v_readSo) (.int v_readCommon) (.int v_readDay) (.ref a_page) (.long (o.2.2.1)) q_book q_bookSeed (.int v_acts) q_kept q_isKept (.int v_told) q_toldSimple q_toldDay q_toldYes q_yesOf q_noOf q_factOf (.ref a_stack) q_one q_two q_three, aI cI a_question 16 v_question, aI cI a_page 12 v_page, aI cZ a_stack 17 (o.2.2.2)]) 0 0 (va_A [oX10 a_th (.int v_thrown) q_text (.int v_textSize) (.int v_place) (.ref a_question) (.int v_questionSize) (.int v_facts) (.int v_isSo) (.int v_common) (.int v_readFacts) (.int v_readSo) (.int v_readCommon) (.int v_readDay) (.ref a_page) (.long v_seed) q_book q_bookSeed (.int v_acts) q_kept q_isKept (.int v_told) q_toldSimple q_toldDay q_toldYes q_yesOf q_noOf q_factOf (.ref a_stack) q_one q_two q_three, aI cI a_question 16 v_question, aI cI a_page 12 v_page, aI cZ a_stack 17 v_stack] sz) := by
  refine Met.ofW (cc := cX10_year) (maxL := 6) (ret := (some .int)) (by decide) rfl ?_
  intro p e s m args below meth c s₁ B hml hv
  obtain ⟨rfl, hsz, hP, hK, hD0, hG⟩ := hv
  have hx := B.exec
  have hb := B.bytes
  have hr := B.returns
  have hts := atoms_spec (ws := wsX10_year) B.pre
  have hown : s.vm.findClass RX10 = some m.cls := findClass_of_methodNamed B.named
  have hlocks := B.notSynchronized
  subst hsz
  have hD := hD0.self (sz := s.heap.size)
  generalize hAe : va_A [oX10 a_th (.int v_thrown) q_text (.int v_textSize) (.int v_place) (.ref a_question) (.int v_questionSize) (.int v_facts) (.int v_isSo) (.int v_common) (.int v_readFacts) (.int v_readSo) (.int v_readCommon) (.int v_readDay) (.ref a_page) (.long v_seed) q_book q_bookSeed (.int v_acts) q_kept q_isKept (.int v_told) q_toldSimple q_toldDay q_toldYes q_yesOf q_noOf q_factOf (.ref a_stack) q_one q_two q_three, aI cI a_question 16 v_question, aI cI a_page 12 v_page, aI cZ a_stack 17 v_stack] s.heap.size = A at hD hG ⊢
  have hA : ∀ q : Nat, s.heap.size ≤ q → A q := fun q h => by rw [← hAe]; exact Or.inr h
  have hS : va_S A s.heap s.heap [] := va_S.rf
  have hl := lv_entry ([.ref a_th, .int p_1]) (n := 6) (Nat.le_of_ble_eq_true rfl)
  rw [lg_entry_eq]
  generalize (lg_sl ([.ref a_th, .int p_1]) ++ List.replicate (6 - (lg_sl ([.ref a_th, .int p_1])).length) Slot.unset).toArray = ls at hl ⊢
  have hl : lv_has ls 6 [(0, .ref a_th), (1, .int p_1)] := hl
  have iX10 : ∀ w ∈ wsX100, w ∈ wsX10_year := fun _ h => List.mem_cons_of_mem _ (List.mem_append_right _ h)
  have f66 := hts (.fieldLink RX10 66 "TrueOnceWeekModel" "thrown" "I") (by decide +kernel)
  have cl234 := hts (.constantLong RX10 234 (60 : Int64)) (by decide +kernel)
  have f16 := hts (.fieldLink RX10 16 "TrueOnceWeekModel" "page" "[I") (by decide +kernel)
  have f105 := hts (.fieldLink RX10 105 "TrueOnceWeekModel" "isSo" "I") (by decide +kernel)
  refine kb_gen (fun Q hQ => ?_)
  unfold m_X10_year at hm
  refine lv_aload_n hx hb dX10_year_0 rfl (lv_at hl 0 rfl) ?_
  refine lv_iconst (v := (0 : Int32)) hx hb dX10_year_1 (by decide) ?_
  refine va_put (D := (dC, dI)) (ci := 8) (v := .int (0 : Int32)) (ty := .int) (C := RX10) (T := TX10) (N := 31) hx hb hts iX10 tyX10 tyX10_ok nmX10 hown hK hP (kb_D hD rfl) hS 0 rfl rfl 0 (by decide) f66 (fun _ h9 => h9) rfl (by decide +kernel) rfl rfl (Nat.le_of_ble_eq_true rfl) dX10_year_2 (fun H locs hP _ hS => ?_)
  have hP : va_P (dC, dI) vwCl [oX10 a_th (.int (0 : Int32)) q_text (.int v_textSize) (.int v_place) (.ref a_question) (.int v_questionSize) (.int v_facts) (.int v_isSo) (.int v_common) (.int v_readFacts) (.int v_readSo) (.int v_readCommon) (.int v_readDay) (.ref a_page) (.long v_seed) q_book q_bookSeed (.int v_acts) q_kept q_isKept (.int v_told) q_toldSimple q_toldDay q_toldYes q_yesOf q_noOf q_factOf (.ref a_stack) q_one q_two q_three, aI cI a_question 16 v_question, aI cI a_page 12 v_page, aI cZ a_stack 17 v_stack] H := hP
  refine lv_iload_n hx hb dX10_year_5 rfl (lv_at hl 1 rfl) ?_
  refine lv_i2l (v := (Int32.toInt64 p_1)) hx hb dX10_year_6 rfl ?_
  refine lv_lconst (v := (1 : Int64)) hx hb dX10_year_7 (by decide) ?_
  refine lv_ldc2 (v := (60 : Int64)) hx hb hown cl234 dX10_year_8 ?_
  obtain ⟨r1, ho2, hm⟩ := bd1_s hm
  refine kb_calli (Rv := r1) (va_runS (As := [.long (Int32.toInt64 p_1), .long (1 : Int64), .long (60 : Int64)]) (rest := []) ⟨hx, hb, hml, hown, hts⟩ (c_X10_in l dC dI cI cJ cZ cQ t H.size (Int32.toInt64 p_1) (1 : Int64) (60 : Int64) (r1) ho2) (va_cwS 3 hts gX10_year_X10_in rfl rfl rfl (by decide +kernel) ⟨(Nat.le_of_ble_eq_true rfl), (Nat.le_of_ble_eq_true rfl)⟩) (kb_pre hK hG hP (kb_D hD rfl) hS hA [] rfl (by decide)) rfl rfl hl.1 rfl (lv_room (Nat.le_of_ble_eq_true rfl)) dX10_year_11 ⟨Nat.zero_le _, Nat.zero_le _⟩) hP (kb_D hD rfl) hS hA [] rfl [(false, 0), (false, 1), (false, 2), (false, 3)] (w2 := [oX10 a_th (.int (0 : Int32)) q_text (.int v_textSize) (.int v_place) (.ref a_question) (.int v_questionSize) (.int v_facts) (.int v_isSo) (.int v_common) (.int v_readFacts) (.int v_readSo) (.int v_readCommon) (.int v_readDay) (.ref a_page) (.long v_seed) q_book q_bookSeed (.int v_acts) q_kept q_isKept (.int v_told) q_toldSimple q_toldDay q_toldYes q_yesOf q_noOf q_factOf (.ref a_stack) q_one q_two q_three, aI cI a_question 16 v_question, aI cI a_page 12 v_page, aI cZ a_stack 17 v_stack]) rfl (by decide) (fun H locs hP hS => ?_)
  refine lv_if_ne (tgt := 20) hx hb dX10_year_14 (by decide) (fun c3 => ?_) (fun c3 => ?_)
  · replace hm := ite_f c3 hm
    refine lv_aload_n hx hb dX10_year_20 rfl (lv_at hl 0 rfl) ?_
    obtain ⟨r4, ho5, hm⟩ := bd1_s hm
    refine kb_calli (Rv := r4) (va_runV (As := []) (rest := []) ⟨hx, hb, hml, hown, hts⟩ (c_X10_slipOf l dC dI cI cJ cZ cQ t H.size a_th a_question q_text (.ref a_page) q_book q_bookSeed q_kept q_isKept q_toldSimple q_toldDay q_toldYes q_yesOf q_noOf q_factOf (.ref a_stack) q_one q_two q_three (0 : Int32) v_textSize v_place v_questionSize v_facts v_isSo v_common v_readFacts v_readSo v_readCommon v_readDay v_seed v_acts v_told v_question (r4) ho5) (cwV 0 hts gX10_year_X10_slipOf rfl rfl rfl (by decide +kernel) ⟨(Nat.le_of_ble_eq_true rfl), (Nat.le_of_ble_eq_true rfl)⟩) ⟨(kb_pre hK hG hP (kb_D hD rfl) hS hA [0, 1] rfl (by decide)).1, (va_recv hK hP (ci := 8) (q0 := 0) rfl rfl), (kb_pre hK hG hP (kb_D hD rfl) hS hA [0, 1] rfl (by decide)).2⟩ rfl rfl hl.1 rfl (lv_room (Nat.le_of_ble_eq_true rfl)) dX10_year_21 ⟨Nat.zero_le _, Nat.zero_le _⟩) hP (kb_D hD rfl) hS hA [0, 1] rfl [(true, 0), (true, 1), (false, 2), (false, 3)] (w2 := [oX10 a_th (.int (0 : Int32)) q_text (.int v_textSize) (.int v_place) (.ref a_question) (.int v_questionSize) (.int v_facts) (.int v_isSo) (.int v_common) (.int v_readFacts) (.int v_readSo) (.int v_readCommon) (.int v_readDay) (.ref a_page) (.long v_seed) q_book q_bookSeed (.int v_acts) q_kept q_isKept (.int v_told) q_toldSimple q_toldDay q_toldYes q_yesOf q_noOf q_factOf (.ref a_stack) q_one q_two q_three, aI cI a_question 16 v_question, aI cI a_page 12 v_page, aI cZ a_stack 17 v_stack]) rfl (by decide) (fun H locs hP hS => ?_)
    refine lv_bipush (v := (-9 : Int32)) hx hb dX10_year_24 (by decide) ?_
    refine lv_icmp_eq (tgt := 32) hx hb dX10_year_26 (by decide) (fun c6 => ?_) (fun c6 => ?_)
    · replace hm := ite_t c6 hm
      refine lv_aload_n hx hb dX10_year_32 rfl (lv_at hl 0 rfl) ?_
      refine va_get (D := (dC, dI)) (ci := 8) (v := .ref a_page) (C := RX10) (T := TX10) (N := 31) hx hb hts iX10 hown hK hP 0 rfl rfl 13 (by decide) f16 (fun _ h9 => h9) rfl dX10_year_33 ?_
      refine lv_bipush (v := (7 : Int32)) hx hb dX10_year_36 (by decide) ?_
      refine va_iald hx hb hK hP 2 0 rfl rfl (inB_s (by decide)) dX10_year_38 ?_
      refine lv_topi (fun x7 ex7 => ?_)
      replace hm := nm_t ex7 hm
      refine lv_istore_n (lv' := [(2, .int x7), (0, .ref a_th), (1, .int p_1)]) hx hb dX10_year_39 rfl hl (by decide) rfl (fun ls hl => ?_)
      refine lv_aload_n hx hb dX10_year_40 rfl (lv_at hl 1 rfl) ?_
      refine va_get (D := (dC, dI)) (ci := 8) (v := .ref a_page) (C := RX10) (T := TX10) (N := 31) hx hb hts iX10 hown hK hP 0 rfl rfl 13 (by decide) f16 (fun _ h9 => h9) rfl dX10_year_41 ?_
      refine lv_bipush (v := (8 : Int32)) hx hb dX10_year_44 (by decide) ?_
      refine va_iald hx hb hK hP 2 0 rfl rfl (inB_s (by decide)) dX10_year_46 ?_
      refine lv_topi (fun x8 ex8 => ?_)
      replace hm := nm_t ex8 hm
      refine lv_istore_n (lv' := [(3, .int x8), (2, .int x7), (0, .ref a_th), (1, .int p_1)]) hx hb dX10_year_47 rfl hl (by decide) rfl (fun ls hl => ?_)
      refine lv_iconst (v := (0 : Int32)) hx hb dX10_year_48 (by decide) ?_
      refine lv_istore (lv' := [(4, .int (0 : Int32)), (3, .int x8), (2, .int x7), (0, .ref a_th), (1, .int p_1)]) hx hb dX10_year_49 hl (by decide) rfl (fun ls hl => ?_)
      refine lv_iconst (v := (0 : Int32)) hx hb dX10_year_51 (by decide) ?_
      refine lv_istore (lv' := [(5, .int (0 : Int32)), (4, .int (0 : Int32)), (3, .int x8), (2, .int x7), (0, .ref a_th), (1, .int p_1)]) hx hb dX10_year_52 hl (by decide) rfl (fun ls hl => ?_)
      have lp54 : ∀ (n54 : Nat) (x9 : Int32) (x10 : Int32) (x11 : Int32) (x12 : Int32) (w13 : Int64) (w14 : (Nat → Int32)) (k54 : Int32 → Int64 → (Nat → Int32) → Option (Int32 × Int32 × Int64 × (Nat → Int32))) (H : Heap) (locs : List Loc) (ls : Array Slot), L_X10_year_54 v_questionSize v_facts v_isSo v_question p_1 n54 x9 x10 x11 x12 w13 w14 k54 = some o → (∀ (x15 : Int32) (w16 : Int64) (w17 : (Nat → Int32)) (H : Heap) (locs : List Loc) (ls : Array Slot), k54 x15 w16 w17 = some o → va_P (dC, dI) vwCl [oX10 a_th (.int (0 : Int32)) q_text (.int v_textSize) (.int v_place) (.ref a_question) (.int v_questionSize) (.int v_facts) (.int v_isSo) (.int v_common) (.int v_readFacts) (.int v_readSo) (.int v_readCommon) (.int v_readDay) (.ref a_page) (.long w16) q_book q_bookSeed (.int v_acts) q_kept q_isKept (.int v_told) q_toldSimple q_toldDay q_toldYes q_yesOf q_noOf q_factOf (.ref a_stack) q_one q_two q_three, aI cI a_question 16 v_question, aI cI a_page 12 v_page, aI cZ a_stack 17 w17] H → va_S A s.heap H locs → lv_has ls 6 [(4, .int x15)] → W p l e (headSpec wsX10_year { frames := 4, cells := 0, slots := 0, locals := 104 }).room s m [.ref a_th, .int p_1].toArray below meth c H locs 0 0 Q (F0 m 109 ls [])) → va_P (dC, dI) vwCl [oX10 a_th (.int (0 : Int32)) q_text (.int v_textSize) (.int v_place) (.ref a_question) (.int v_questionSize) (.int v_facts) (.int v_isSo) (.int v_common) (.int v_readFacts) (.int v_readSo) (.int v_readCommon) (.int v_readDay) (.ref a_page) (.long w13) q_book q_bookSeed (.int v_acts) q_kept q_isKept (.int v_told) q_toldSimple q_toldDay q_toldYes q_yesOf q_noOf q_factOf (.ref a_stack) q_one q_two q_three, aI cI a_question 16 v_question, aI cI a_page 12 v_page, aI cZ a_stack 17 w14] H → va_S A s.heap H locs → lv_has ls 6 [(0, .ref a_th), (1, .int p_1), (2, .int x9), (3, .int x10), (4, .int x11), (5, .int x12)] → W p l e (headSpec wsX10_year { frames := 4, cells := 0, slots := 0, locals := 104 }).room s m [.ref a_th, .int p_1].toArray below meth c H locs 0 0 Q (F0 m 54 ls []) := by
        intro n54
        induction n54 with
        | zero =>
          intro x9 x10 x11 x12 w13 w14 k54 H locs ls hm
          cases (show (none : Option (Int32 × Int32 × Int64 × (Nat → Int32))) = some o from hm)
        | succ n54 ih54 =>
          intro x9 x10 x11 x12 w13 w14 k54 H locs ls hm hk54 hP hS hl
          rw [L_X10_year_54.eq_2] at hm
          refine lv_iload hx hb dX10_year_54 (lv_at hl 5 rfl) ?_
          refine lv_iload_n hx hb dX10_year_56 rfl (lv_at hl 1 rfl) ?_
          refine lv_icmp_ge (tgt := 109) hx hb dX10_year_57 (by decide) (fun c18 => ?_) (fun c18 => ?_)
          · replace hm := ite_t c18 hm
            exact hk54 x11 w13 w14 _ _ _ hm hP hS (lv_sub hl [4] rfl)
          · replace hm := ite_f c18 hm
            obtain ⟨x19, ex19⟩ : ∃ y : Int32, y = x9 + (1 : Int32) := ⟨_, rfl⟩
            replace hm := nm_t ex19 hm
            refine lv_iinc (v := x19) (lv' := [(2, .int x19), (0, .ref a_th), (1, .int p_1), (3, .int x10), (4, .int x11), (5, .int x12)]) hx hb dX10_year_60 hl (k := 2) rfl (by rw [ex19]; rfl) (by decide) rfl (fun ls hl => ?_)
            refine lv_iload_n hx hb dX10_year_63 rfl (lv_at hl 0 rfl) ?_
            refine lv_bipush (v := (28 : Int32)) hx hb dX10_year_64 (by decide) ?_
            obtain ⟨k76, ek76, hm⟩ := nm_s hm
            have J76 : ∀ (x20 : Int32) (x21 : Int32) (w22 : Int64) (H : Heap) (locs : List Loc) (ls : Array Slot), k76 x20 x21 w22 = some o → va_P (dC, dI) vwCl [oX10 a_th (.int (0 : Int32)) q_text (.int v_textSize) (.int v_place) (.ref a_question) (.int v_questionSize) (.int v_facts) (.int v_isSo) (.int v_common) (.int v_readFacts) (.int v_readSo) (.int v_readCommon) (.int v_readDay) (.ref a_page) (.long w22) q_book q_bookSeed (.int v_acts) q_kept q_isKept (.int v_told) q_toldSimple q_toldDay q_toldYes q_yesOf q_noOf q_factOf (.ref a_stack) q_one q_two q_three, aI cI a_question 16 v_question, aI cI a_page 12 v_page, aI cZ a_stack 17 w14] H → va_S A s.heap H locs → lv_has ls 6 [(0, .ref a_th), (1, .int p_1), (2, .int x20), (3, .int x21), (4, .int x11), (5, .int x12)] → W p l e (headSpec wsX10_year { frames := 4, cells := 0, slots := 0, locals := 104 }).room s m [.ref a_th, .int p_1].toArray below meth c H locs 0 0 Q (F0 m 76 ls []) := by
              intro x20 x21 w22 H locs ls hm hP hS hl
              rw [ek76] at hm
              refine lv_iload hx hb dX10_year_76 (lv_at hl 4 rfl) ?_
              refine lv_aload_n hx hb dX10_year_78 rfl (lv_at hl 0 rfl) ?_
              refine lv_bipush (v := (-9 : Int32)) hx hb dX10_year_79 (by decide) ?_
              refine lv_iload_n hx hb dX10_year_81 rfl (lv_at hl 2 rfl) ?_
              refine lv_iload_n hx hb dX10_year_82 rfl (lv_at hl 3 rfl) ?_
              refine lv_iload_n hx hb dX10_year_83 rfl (lv_at hl 3 rfl) ?_
              refine lv_aload_n hx hb dX10_year_84 rfl (lv_at hl 0 rfl) ?_
              refine va_get (D := (dC, dI)) (ci := 8) (v := .int v_isSo) (C := RX10) (T := TX10) (N := 31) hx hb hts iX10 hown hK hP 0 rfl rfl 7 (by decide) f105 (fun _ h9 => h9) rfl dX10_year_85 ?_
              obtain ⟨r23, w24, ho25, hm⟩ := bd2_s hm
              refine kb_calli (Rv := r23) (va_runV (As := [.int (-9 : Int32), .int x20, .int x21, .int x21, .int v_isSo]) (rest := [.int x11]) ⟨hx, hb, hml, hown, hts⟩ (c_X10_answerOf l dC dI cI cJ cZ cQ t H.size a_th a_question a_stack q_text (.ref a_page) q_book q_bookSeed q_kept q_isKept q_toldSimple q_toldDay q_toldYes q_yesOf q_noOf q_factOf q_one q_two q_three (0 : Int32) v_textSize v_place v_questionSize v_facts v_isSo v_common v_readFacts v_readSo v_readCommon v_readDay w22 v_acts v_told v_question w14 (-9 : Int32) x20 x21 x21 v_isSo (r23, w24) ho25) (cwV 5 hts gX10_year_X10_answerOf rfl rfl rfl (by decide +kernel) ⟨(Nat.le_of_ble_eq_true rfl), (Nat.le_of_ble_eq_true rfl)⟩) ⟨(kb_pre hK hG hP (kb_D hD rfl) hS hA [0, 1, 3] rfl (by decide)).1, (va_recv hK hP (ci := 8) (q0 := 0) rfl rfl), (kb_pre hK hG hP (kb_D hD rfl) hS hA [0, 1, 3] rfl (by decide)).2⟩ rfl rfl hl.1 rfl (lv_room (Nat.le_of_ble_eq_true rfl)) dX10_year_88 ⟨Nat.zero_le _, Nat.zero_le _⟩) hP (kb_D hD rfl) hS hA [0, 1, 3] rfl [(true, 0), (true, 1), (false, 2), (true, 2)] (w2 := [oX10 a_th (.int (0 : Int32)) q_text (.int v_textSize) (.int v_place) (.ref a_question) (.int v_questionSize) (.int v_facts) (.int v_isSo) (.int v_common) (.int v_readFacts) (.int v_readSo) (.int v_readCommon) (.int v_readDay) (.ref a_page) (.long w22) q_book q_bookSeed (.int v_acts) q_kept q_isKept (.int v_told) q_toldSimple q_toldDay q_toldYes q_yesOf q_noOf q_factOf (.ref a_stack) q_one q_two q_three, aI cI a_question 16 v_question, aI cI a_page 12 v_page, aI cZ a_stack 17 w24]) rfl (by decide) (fun H locs hP hS => ?_)
              refine lv_iconst (v := (1 : Int32)) hx hb dX10_year_91 (by decide) ?_
              obtain ⟨k100, ek100, hm⟩ := nm_s hm
              have J100 : ∀ (x26 : Int32) (H : Heap) (locs : List Loc) (ls : Array Slot), k100 x26 = some o → va_P (dC, dI) vwCl [oX10 a_th (.int (0 : Int32)) q_text (.int v_textSize) (.int v_place) (.ref a_question) (.int v_questionSize) (.int v_facts) (.int v_isSo) (.int v_common) (.int v_readFacts) (.int v_readSo) (.int v_readCommon) (.int v_readDay) (.ref a_page) (.long w22) q_book q_bookSeed (.int v_acts) q_kept q_isKept (.int v_told) q_toldSimple q_toldDay q_toldYes q_yesOf q_noOf q_factOf (.ref a_stack) q_one q_two q_three, aI cI a_question 16 v_question, aI cI a_page 12 v_page, aI cZ a_stack 17 w24] H → va_S A s.heap H locs → lv_has ls 6 [(0, .ref a_th), (1, .int p_1), (2, .int x20), (3, .int x21), (5, .int x12)] → W p l e (headSpec wsX10_year { frames := 4, cells := 0, slots := 0, locals := 104 }).room s m [.ref a_th, .int p_1].toArray below meth c H locs 0 0 Q (F0 m 100 ls [.int x26, .int x11]) := by
                intro x26 H locs ls hm hP hS hl
                rw [ek100] at hm
                refine lv_iadd hx hb dX10_year_100 ?_
                refine lv_topi (fun x27 ex27 => ?_)
                replace hm := nm_t ex27 hm
                refine lv_istore (lv' := [(4, .int x27), (0, .ref a_th), (1, .int p_1), (2, .int x20), (3, .int x21), (5, .int x12)]) hx hb dX10_year_101 hl (by decide) rfl (fun ls hl => ?_)
                obtain ⟨x28, ex28⟩ : ∃ y : Int32, y = x12 + (1 : Int32) := ⟨_, rfl⟩
                replace hm := nm_t ex28 hm
                refine lv_iinc (v := x28) (lv' := [(5, .int x28), (4, .int x27), (0, .ref a_th), (1, .int p_1), (2, .int x20), (3, .int x21)]) hx hb dX10_year_103 hl (k := 5) rfl (by rw [ex28]; rfl) (by decide) rfl (fun ls hl => ?_)
                refine lv_goto (tgt := 54) hx hb dX10_year_106 (by decide) ?_
                exact ih54 x20 x21 x27 x28 w22 w24 k54 _ _ _ hm hk54 hP hS (lv_sub hl [2, 3, 4, 5, 1, 0] rfl)
              refine lv_icmp_ne (tgt := 99) hx hb dX10_year_92 (by decide) (fun c29 => ?_) (fun c29 => ?_)
              · replace hm := ite_f c29 hm
                refine lv_iconst (v := (0 : Int32)) hx hb dX10_year_99 (by decide) ?_
                exact J100 (0 : Int32) _ _ _ hm hP hS (lv_sub hl [0, 1, 2, 3, 5] rfl)
              · replace hm := ite_t c29 hm
                refine lv_iconst (v := (1 : Int32)) hx hb dX10_year_95 (by decide) ?_
                refine lv_goto (tgt := 100) hx hb dX10_year_96 (by decide) ?_
                exact J100 (1 : Int32) _ _ _ hm hP hS (lv_sub hl [0, 1, 2, 3, 5] rfl)
            refine lv_icmp_ne (tgt := 76) hx hb dX10_year_66 (by decide) (fun c30 => ?_) (fun c30 => ?_)
            · replace hm := ite_f c30 hm
              exact J76 x19 x10 w13 _ _ _ hm hP hS (lv_sub hl [1, 2, 0, 3, 4, 5] rfl)
            · replace hm := ite_t c30 hm
              refine lv_iconst (v := (0 : Int32)) hx hb dX10_year_69 (by decide) ?_
              refine lv_istore_n (lv' := [(2, .int (0 : Int32)), (0, .ref a_th), (1, .int p_1), (3, .int x10), (4, .int x11), (5, .int x12)]) hx hb dX10_year_70 rfl hl (by decide) rfl (fun ls hl => ?_)
              refine lv_aload_n hx hb dX10_year_71 rfl (lv_at hl 1 rfl) ?_
              obtain ⟨r31, w32, ho33, hm⟩ := bd2_s hm
              refine kb_calli (Rv := r31) (va_runV (As := []) (rest := []) ⟨hx, hb, hml, hown, hts⟩ (c_X10_drawDay l dC dI cI cJ cZ cQ t H.size a_th q_text (.ref a_question) (.ref a_page) q_book q_bookSeed q_kept q_isKept q_toldSimple q_toldDay q_toldYes q_yesOf q_noOf q_factOf (.ref a_stack) q_one q_two q_three (0 : Int32) v_textSize v_place v_questionSize v_facts v_isSo v_common v_readFacts v_readSo v_readCommon v_readDay w13 v_acts v_told (r31, w32) ho33) (cwV 0 hts gX10_year_X10_drawDay rfl rfl rfl (by decide +kernel) ⟨(Nat.le_of_ble_eq_true rfl), (Nat.le_of_ble_eq_true rfl)⟩) ⟨(kb_pre hK hG hP (kb_D hD rfl) hS hA [0] rfl (by decide)).1, (va_recv hK hP (ci := 8) (q0 := 0) rfl rfl), (kb_pre hK hG hP (kb_D hD rfl) hS hA [0] rfl (by decide)).2⟩ rfl rfl hl.1 rfl (lv_room (Nat.le_of_ble_eq_true rfl)) dX10_year_72 ⟨Nat.zero_le _, Nat.zero_le _⟩) hP (kb_D hD rfl) hS hA [0] rfl [(true, 0), (false, 1), (false, 2), (false, 3)] (w2 := [oX10 a_th (.int (0 : Int32)) q_text (.int v_textSize) (.int v_place) (.ref a_question) (.int v_questionSize) (.int v_facts) (.int v_isSo) (.int v_common) (.int v_readFacts) (.int v_readSo) (.int v_readCommon) (.int v_readDay) (.ref a_page) (.long w32) q_book q_bookSeed (.int v_acts) q_kept q_isKept (.int v_told) q_toldSimple q_toldDay q_toldYes q_yesOf q_noOf q_factOf (.ref a_stack) q_one q_two q_three, aI cI a_question 16 v_question, aI cI a_page 12 v_page, aI cZ a_stack 17 w14]) rfl (by decide) (fun H locs hP hS => ?_)
              refine lv_istore_n (lv' := [(3, .int r31), (2, .int (0 : Int32)), (0, .ref a_th), (1, .int p_1), (4, .int x11), (5, .int x12)]) hx hb dX10_year_75 rfl hl (by decide) rfl (fun ls hl => ?_)
              exact J76 (0 : Int32) r31 w32 _ _ _ hm hP hS (lv_sub hl [2, 3, 1, 0, 4, 5] rfl)
      refine lp54 1024 x7 x8 (0 : Int32) (0 : Int32) v_seed v_stack _ _ _ _ hm (fun x15 w16 w17 H locs ls hm hP hS hl => ?_) hP hS (lv_sub hl [4, 5, 3, 2, 1, 0] rfl)
      refine lv_iload hx hb dX10_year_109 (lv_at hl 0 rfl) ?_
      obtain rfl := Option.some.inj hm
      subst hQ
      exact W.iret hx hb hr (fun t ht hW => ⟨⟨_, (), rfl, rfl, kb_h hP ht⟩, hS.F ht⟩) hS.2.2 dX10_year_111
    · replace hm := ite_f c6 hm
      refine lv_bipush (v := (-3 : Int32)) hx hb dX10_year_29 (by decide) ?_
      obtain rfl := Option.some.inj hm
      subst hQ
      exact W.iret hx hb hr (fun t ht hW => ⟨⟨_, (), rfl, rfl, kb_h hP ht⟩, hS.F ht⟩) hS.2.2 dX10_year_31
  · replace hm := ite_t c3 hm
    refine lv_bipush (v := (-2 : Int32)) hx hb dX10_year_17 (by decide) ?_
    obtain rfl := Option.some.inj hm
    subst hQ
    exact W.iret hx hb hr (fun t ht hW => ⟨⟨_, (), rfl, rfl, kb_h hP ht⟩, hS.F ht⟩) hS.2.2 dX10_year_19
set_option maxHeartbeats 4000000 in
set_option maxRecDepth 100000 in
theorem c_X10_keep (l : Launch) (dC : Nat → ClassId) (dI : Nat → Nat → Nat) (cI cJ cZ cQ : ClassId) (t sz : Nat) (a_th : Nat) (a_isKept : Nat) (a_page : Nat) (a_kept : Nat) (q_text : Value) (q_question : Value) (q_book : Value) (q_bookSeed : Value) (q_toldSimple : Value) (q_toldDay : Value) (q_toldYes : Value) (q_yesOf : Value) (q_noOf : Value) (q_factOf : Value) (q_stack : Value) (q_one : Value) (q_two : Value) (q_three : Value) (v_thrown : Int32) (v_textSize : Int32) (v_place : Int32) (v_questionSize : Int32) (v_facts : Int32) (v_isSo : Int32) (v_common : Int32) (v_readFacts : Int32) (v_readSo : Int32) (v_readCommon : Int32) (v_readDay : Int32) (v_seed : Int64) (v_acts : Int32) (v_told : Int32) (v_isKept : (Nat → Int32)) (v_page : (Nat → Int32)) (v_kept : (Nat → Int32)) (p_1 : Int32) (o : Int32 × Int32 × (Nat → Int32) × (Nat → Int32)) (hm : m_X10_keep p_1 v_thrown v_isKept v_page v_kept = some o) : Met l yX10_keep wsX10_keep { frames := 2, cells := 0, slots := 0, locals := 44 } (va_Pc [.ref a_th, .int p_1] (cP (dC, dI) (kT cI cJ cZ cQ) t sz [oX10 a_th (.int v_thrown) q_text (.int v_textSize) (.int v_place) q_question (.int v_questionSize) (.int v_facts) (.int v_isSo) (.int v_common) (.int v_readFacts) (.int v_readSo) (.int v_readCommon) (.int v_readDay) (.ref a_page) (.long v_seed) q_book q_bookSeed (.int v_acts) (.ref a_kept) (.ref a_isKept) (.int v_told) q_toldSimple q_toldDay q_toldYes q_yesOf q_noOf q_factOf q_stack q_one q_two q_three, aI cZ a_isKept 2 v_isKept, aI cI a_page 12 v_page, aI cI a_kept 24 v_kept])) (cQi (dC, dI) (va_A [oX10 a_th (.int v_thrown) q_text (.int v_textSize) (.int v_place) q_question (.int v_questionSize) (.int v_facts) (.int v_isSo) (.int v_common) (.int v_readFacts) (.int v_readSo) (.int v_readCommon) (.int v_readDay) (.ref a_page) (.long v_seed) q_book q_bookSeed (.int v_acts) (.ref a_kept) (.ref a_isKept) (.int v_told) q_toldSimple q_toldDay q_toldYes q_yesOf q_noOf q_factOf q_stack q_one q_two q_three, aI cZ a_isKept 2 v_isKept, aI cI a_page 12 v_page, aI cI a_kept 24 v_kept] sz) o.1 [oX10 a_th (.int (o.2.1)) q_text (.int v_textSize) (.int v_place) q_question (.int v_questionSize) (.int v_facts) (.int v_isSo) (.int v_common) (.int v_readFacts) (.int v_readSo) (.int v_readCommon) (.int v_readDay) (.ref a_page) (.long v_seed) q_book q_bookSeed (.int v_acts) (.ref a_kept) (.ref a_isKept) (.int v_told) q_toldSimple q_toldDay q_toldYes q_yesOf q_noOf q_factOf q_stack q_one q_two q_three, aI cZ a_isKept 2 (o.2.2.1), aI cI a_page 12 v_page, aI cI a_kept 24 (o.2.2.2)]) 0 0 (va_A [oX10 a_th (.int v_thrown) q_text (.int v_textSize) (.int v_place) q_question (.int v_questionSize) (.int v_facts) (.int v_isSo) (.int v_common) (.int v_readFacts) (.int v_readSo) (.int v_readCommon) (.int v_readDay) (.ref a_page) (.long v_seed) q_book q_bookSeed (.int v_acts) (.ref a_kept) (.ref a_isKept) (.int v_told) q_toldSimple q_toldDay q_toldYes q_yesOf q_noOf q_factOf q_stack q_one q_two q_three, aI cZ a_isKept 2 v_isKept, aI cI a_page 12 v_page, aI cI a_kept 24 v_kept] sz) := by
  refine Met.ofW (cc := cX10_keep) (maxL := 3) (ret := (some .int)) (by decide) rfl ?_
  intro p e s m args below meth c s₁ B hml hv
  obtain ⟨rfl, hsz, hP, hK, hD0, hG⟩ := hv
  have hx := B.exec
  have hb := B.bytes
  have hr := B.returns
  have hts := atoms_spec (ws := wsX10_keep) B.pre
  have hown : s.vm.findClass RX10 = some m.cls := findClass_of_methodNamed B.named
  have hlocks := B.notSynchronized
  subst hsz
  have hD := hD0.self (sz := s.heap.size)
  generalize hAe : va_A [oX10 a_th (.int v_thrown) q_text (.int v_textSize) (.int v_place) q_question (.int v_questionSize) (.int v_facts) (.int v_isSo) (.int v_common) (.int v_readFacts) (.int v_readSo) (.int v_readCommon) (.int v_readDay) (.ref a_page) (.long v_seed) q_book q_bookSeed (.int v_acts) (.ref a_kept) (.ref a_isKept) (.int v_told) q_toldSimple q_toldDay q_toldYes q_yesOf q_noOf q_factOf q_stack q_one q_two q_three, aI cZ a_isKept 2 v_isKept, aI cI a_page 12 v_page, aI cI a_kept 24 v_kept] s.heap.size = A at hD hG ⊢
  have hA : ∀ q : Nat, s.heap.size ≤ q → A q := fun q h => by rw [← hAe]; exact Or.inr h
  have hS : va_S A s.heap s.heap [] := va_S.rf
  have hl := lv_entry ([.ref a_th, .int p_1]) (n := 3) (Nat.le_of_ble_eq_true rfl)
  rw [lg_entry_eq]
  generalize (lg_sl ([.ref a_th, .int p_1]) ++ List.replicate (3 - (lg_sl ([.ref a_th, .int p_1])).length) Slot.unset).toArray = ls at hl ⊢
  have hl : lv_has ls 3 [(0, .ref a_th), (1, .int p_1)] := hl
  have iX10 : ∀ w ∈ wsX100, w ∈ wsX10_keep := fun _ h => List.mem_cons_of_mem _ (List.mem_append_right _ h)
  have f66 := hts (.fieldLink RX10 66 "TrueOnceWeekModel" "thrown" "I") (by decide +kernel)
  have f29 := hts (.fieldLink RX10 29 "TrueOnceWeekModel" "isKept" "[Z") (by decide +kernel)
  have f26 := hts (.fieldLink RX10 26 "TrueOnceWeekModel" "kept" "[I") (by decide +kernel)
  have f16 := hts (.fieldLink RX10 16 "TrueOnceWeekModel" "page" "[I") (by decide +kernel)
  refine kb_gen (fun Q hQ => ?_)
  unfold m_X10_keep at hm
  refine lv_aload_n hx hb dX10_keep_0 rfl (lv_at hl 0 rfl) ?_
  refine lv_iconst (v := (0 : Int32)) hx hb dX10_keep_1 (by decide) ?_
  refine va_put (D := (dC, dI)) (ci := 8) (v := .int (0 : Int32)) (ty := .int) (C := RX10) (T := TX10) (N := 31) hx hb hts iX10 tyX10 tyX10_ok nmX10 hown hK hP (kb_D hD rfl) hS 0 rfl rfl 0 (by decide) f66 (fun _ h9 => h9) rfl (by decide +kernel) rfl rfl (Nat.le_of_ble_eq_true rfl) dX10_keep_2 (fun H locs hP _ hS => ?_)
  have hP : va_P (dC, dI) vwCl [oX10 a_th (.int (0 : Int32)) q_text (.int v_textSize) (.int v_place) q_question (.int v_questionSize) (.int v_facts) (.int v_isSo) (.int v_common) (.int v_readFacts) (.int v_readSo) (.int v_readCommon) (.int v_readDay) (.ref a_page) (.long v_seed) q_book q_bookSeed (.int v_acts) (.ref a_kept) (.ref a_isKept) (.int v_told) q_toldSimple q_toldDay q_toldYes q_yesOf q_noOf q_factOf q_stack q_one q_two q_three, aI cZ a_isKept 2 v_isKept, aI cI a_page 12 v_page, aI cI a_kept 24 v_kept] H := hP
  refine lv_iload_n hx hb dX10_keep_5 rfl (lv_at hl 1 rfl) ?_
  refine lv_i2l (v := (Int32.toInt64 p_1)) hx hb dX10_keep_6 rfl ?_
  refine lv_lconst (v := (0 : Int64)) hx hb dX10_keep_7 (by decide) ?_
  refine lv_lconst (v := (1 : Int64)) hx hb dX10_keep_8 (by decide) ?_
  obtain ⟨r1, ho2, hm⟩ := bd1_s hm
  refine kb_calli (Rv := r1) (va_runS (As := [.long (Int32.toInt64 p_1), .long (0 : Int64), .long (1 : Int64)]) (rest := []) ⟨hx, hb, hml, hown, hts⟩ (c_X10_in l dC dI cI cJ cZ cQ t H.size (Int32.toInt64 p_1) (0 : Int64) (1 : Int64) (r1) ho2) (va_cwS 3 hts gX10_keep_X10_in rfl rfl rfl (by decide +kernel) ⟨(Nat.le_of_ble_eq_true rfl), (Nat.le_of_ble_eq_true rfl)⟩) (kb_pre hK hG hP (kb_D hD rfl) hS hA [] rfl (by decide)) rfl rfl hl.1 rfl (lv_room (Nat.le_of_ble_eq_true rfl)) dX10_keep_9 ⟨Nat.zero_le _, Nat.zero_le _⟩) hP (kb_D hD rfl) hS hA [] rfl [(false, 0), (false, 1), (false, 2), (false, 3)] (w2 := [oX10 a_th (.int (0 : Int32)) q_text (.int v_textSize) (.int v_place) q_question (.int v_questionSize) (.int v_facts) (.int v_isSo) (.int v_common) (.int v_readFacts) (.int v_readSo) (.int v_readCommon) (.int v_readDay) (.ref a_page) (.long v_seed) q_book q_bookSeed (.int v_acts) (.ref a_kept) (.ref a_isKept) (.int v_told) q_toldSimple q_toldDay q_toldYes q_yesOf q_noOf q_factOf q_stack q_one q_two q_three, aI cZ a_isKept 2 v_isKept, aI cI a_page 12 v_page, aI cI a_kept 24 v_kept]) rfl (by decide) (fun H locs hP hS => ?_)
  refine lv_if_ne (tgt := 17) hx hb dX10_keep_12 (by decide) (fun c3 => ?_) (fun c3 => ?_)
  · replace hm := ite_f c3 hm
    refine lv_aload_n hx hb dX10_keep_17 rfl (lv_at hl 0 rfl) ?_
    refine va_get (D := (dC, dI)) (ci := 8) (v := .ref a_isKept) (C := RX10) (T := TX10) (N := 31) hx hb hts iX10 hown hK hP 0 rfl rfl 19 (by decide) f29 (fun _ h9 => h9) rfl dX10_keep_18 ?_
    refine lv_iload_n hx hb dX10_keep_21 rfl (lv_at hl 1 rfl) ?_
    refine lv_iconst (v := (1 : Int32)) hx hb dX10_keep_22 (by decide) ?_
    obtain ⟨h4, hm⟩ := gd_s hm
    refine va_zast hx hb hK hP (kb_D hD rfl) hS 1 2 rfl rfl (inB_s h4) dX10_keep_23 (fun H locs hP _ hS => ?_)
    have hP : va_P (dC, dI) vwCl [oX10 a_th (.int (0 : Int32)) q_text (.int v_textSize) (.int v_place) q_question (.int v_questionSize) (.int v_facts) (.int v_isSo) (.int v_common) (.int v_readFacts) (.int v_readSo) (.int v_readCommon) (.int v_readDay) (.ref a_page) (.long v_seed) q_book q_bookSeed (.int v_acts) (.ref a_kept) (.ref a_isKept) (.int v_told) q_toldSimple q_toldDay q_toldYes q_yesOf q_noOf q_factOf q_stack q_one q_two q_three, aI cZ a_isKept 2 (upd v_isKept (Int32.toNatClampNeg p_1) (vp_nar .boolean (1 : Int32))), aI cI a_page 12 v_page, aI cI a_kept 24 v_kept] H := hP
    refine lv_iconst (v := (0 : Int32)) hx hb dX10_keep_24 (by decide) ?_
    refine lv_istore_n (lv' := [(2, .int (0 : Int32)), (0, .ref a_th), (1, .int p_1)]) hx hb dX10_keep_25 rfl hl (by decide) rfl (fun ls hl => ?_)
    have lp26 : ∀ (n26 : Nat) (x5 : Int32) (w6 : (Nat → Int32)) (k26 : (Nat → Int32) → Option (Int32 × Int32 × (Nat → Int32) × (Nat → Int32))) (H : Heap) (locs : List Loc) (ls : Array Slot), L_X10_keep_26 v_page p_1 n26 x5 w6 k26 = some o → (∀ (w7 : (Nat → Int32)) (H : Heap) (locs : List Loc) (ls : Array Slot), k26 w7 = some o → va_P (dC, dI) vwCl [oX10 a_th (.int (0 : Int32)) q_text (.int v_textSize) (.int v_place) q_question (.int v_questionSize) (.int v_facts) (.int v_isSo) (.int v_common) (.int v_readFacts) (.int v_readSo) (.int v_readCommon) (.int v_readDay) (.ref a_page) (.long v_seed) q_book q_bookSeed (.int v_acts) (.ref a_kept) (.ref a_isKept) (.int v_told) q_toldSimple q_toldDay q_toldYes q_yesOf q_noOf q_factOf q_stack q_one q_two q_three, aI cZ a_isKept 2 (upd v_isKept (Int32.toNatClampNeg p_1) (vp_nar .boolean (1 : Int32))), aI cI a_page 12 v_page, aI cI a_kept 24 w7] H → va_S A s.heap H locs → lv_has ls 3 [(0, .ref a_th)] → W p l e (headSpec wsX10_keep { frames := 2, cells := 0, slots := 0, locals := 44 }).room s m [.ref a_th, .int p_1].toArray below meth c H locs 0 0 Q (F0 m 55 ls [])) → va_P (dC, dI) vwCl [oX10 a_th (.int (0 : Int32)) q_text (.int v_textSize) (.int v_place) q_question (.int v_questionSize) (.int v_facts) (.int v_isSo) (.int v_common) (.int v_readFacts) (.int v_readSo) (.int v_readCommon) (.int v_readDay) (.ref a_page) (.long v_seed) q_book q_bookSeed (.int v_acts) (.ref a_kept) (.ref a_isKept) (.int v_told) q_toldSimple q_toldDay q_toldYes q_yesOf q_noOf q_factOf q_stack q_one q_two q_three, aI cZ a_isKept 2 (upd v_isKept (Int32.toNatClampNeg p_1) (vp_nar .boolean (1 : Int32))), aI cI a_page 12 v_page, aI cI a_kept 24 w6] H → va_S A s.heap H locs → lv_has ls 3 [(0, .ref a_th), (1, .int p_1), (2, .int x5)] → W p l e (headSpec wsX10_keep { frames := 2, cells := 0, slots := 0, locals := 44 }).room s m [.ref a_th, .int p_1].toArray below meth c H locs 0 0 Q (F0 m 26 ls []) := by
      intro n26
      induction n26 with
      | zero =>
        intro x5 w6 k26 H locs ls hm
        cases (show (none : Option (Int32 × Int32 × (Nat → Int32) × (Nat → Int32))) = some o from hm)
      | succ n26 ih26 =>
        intro x5 w6 k26 H locs ls hm hk26 hP hS hl
        rw [L_X10_keep_26.eq_2] at hm
        refine lv_iload_n hx hb dX10_keep_26 rfl (lv_at hl 2 rfl) ?_
        refine lv_bipush (v := (12 : Int32)) hx hb dX10_keep_27 (by decide) ?_
        refine lv_icmp_ge (tgt := 55) hx hb dX10_keep_29 (by decide) (fun c8 => ?_) (fun c8 => ?_)
        · replace hm := ite_t c8 hm
          exact hk26 w6 _ _ _ hm hP hS (lv_sub hl [0] rfl)
        · replace hm := ite_f c8 hm
          refine lv_aload_n hx hb dX10_keep_32 rfl (lv_at hl 0 rfl) ?_
          refine va_get (D := (dC, dI)) (ci := 8) (v := .ref a_kept) (C := RX10) (T := TX10) (N := 31) hx hb hts iX10 hown hK hP 0 rfl rfl 18 (by decide) f26 (fun _ h9 => h9) rfl dX10_keep_33 ?_
          refine lv_bipush (v := (12 : Int32)) hx hb dX10_keep_36 (by decide) ?_
          refine lv_iload_n hx hb dX10_keep_38 rfl (lv_at hl 1 rfl) ?_
          refine lv_imul hx hb dX10_keep_39 ?_
          refine lv_iload_n hx hb dX10_keep_40 rfl (lv_at hl 2 rfl) ?_
          refine lv_iadd hx hb dX10_keep_41 ?_
          refine lv_aload_n hx hb dX10_keep_42 rfl (lv_at hl 0 rfl) ?_
          refine va_get (D := (dC, dI)) (ci := 8) (v := .ref a_page) (C := RX10) (T := TX10) (N := 31) hx hb hts iX10 hown hK hP 0 rfl rfl 13 (by decide) f16 (fun _ h9 => h9) rfl dX10_keep_43 ?_
          refine lv_iload_n hx hb dX10_keep_46 rfl (lv_at hl 2 rfl) ?_
          obtain ⟨h9, hm⟩ := gd_s hm
          refine va_iald hx hb hK hP 2 0 rfl rfl (inB_s h9) dX10_keep_47 ?_
          obtain ⟨h10, hm⟩ := gd_s hm
          refine va_iast hx hb hK hP (kb_D hD rfl) hS 3 0 rfl rfl (inB_s h10) dX10_keep_48 (fun H locs hP _ hS => ?_)
          have hP : va_P (dC, dI) vwCl [oX10 a_th (.int (0 : Int32)) q_text (.int v_textSize) (.int v_place) q_question (.int v_questionSize) (.int v_facts) (.int v_isSo) (.int v_common) (.int v_readFacts) (.int v_readSo) (.int v_readCommon) (.int v_readDay) (.ref a_page) (.long v_seed) q_book q_bookSeed (.int v_acts) (.ref a_kept) (.ref a_isKept) (.int v_told) q_toldSimple q_toldDay q_toldYes q_yesOf q_noOf q_factOf q_stack q_one q_two q_three, aI cZ a_isKept 2 (upd v_isKept (Int32.toNatClampNeg p_1) (vp_nar .boolean (1 : Int32))), aI cI a_page 12 v_page, aI cI a_kept 24 (upd w6 (Int32.toNatClampNeg (((12 : Int32) * p_1) + x5)) (v_page (Int32.toNatClampNeg x5)))] H := hP
          obtain ⟨x11, ex11⟩ : ∃ y : Int32, y = x5 + (1 : Int32) := ⟨_, rfl⟩
          replace hm := nm_t ex11 hm
          refine lv_iinc (v := x11) (lv' := [(2, .int x11), (0, .ref a_th), (1, .int p_1)]) hx hb dX10_keep_49 hl (k := 2) rfl (by rw [ex11]; rfl) (by decide) rfl (fun ls hl => ?_)
          refine lv_goto (tgt := 26) hx hb dX10_keep_52 (by decide) ?_
          exact ih26 x11 (upd w6 (Int32.toNatClampNeg (((12 : Int32) * p_1) + x5)) (v_page (Int32.toNatClampNeg x5))) k26 _ _ _ hm hk26 hP hS (lv_sub hl [1, 2, 0] rfl)
    refine lp26 1024 (0 : Int32) v_kept _ _ _ _ hm (fun w7 H locs ls hm hP hS hl => ?_) hP hS (lv_sub hl [1, 2, 0] rfl)
    refine lv_aload_n hx hb dX10_keep_55 rfl (lv_at hl 0 rfl) ?_
    refine va_get (D := (dC, dI)) (ci := 8) (v := .ref a_page) (C := RX10) (T := TX10) (N := 31) hx hb hts iX10 hown hK hP 0 rfl rfl 13 (by decide) f16 (fun _ h9 => h9) rfl dX10_keep_56 ?_
    obtain ⟨r12, ho13, hm⟩ := bd1_s hm
    refine kb_calli (Rv := r12) (va_runS (As := [.ref a_page]) (rest := []) ⟨hx, hb, hml, hown, hts⟩ (c_X10_knownMany l dC dI cI cJ cZ cQ t H.size a_page 12 v_page (r12) ho13) (va_cwS 1 hts gX10_keep_X10_knownMany rfl rfl rfl (by decide +kernel) ⟨(Nat.le_of_ble_eq_true rfl), (Nat.le_of_ble_eq_true rfl)⟩) (kb_pre hK hG hP (kb_D hD rfl) hS hA [2] rfl (by decide)) rfl rfl hl.1 rfl (lv_room (Nat.le_of_ble_eq_true rfl)) dX10_keep_59 ⟨Nat.zero_le _, Nat.zero_le _⟩) hP (kb_D hD rfl) hS hA [2] rfl [(false, 0), (false, 1), (true, 0), (false, 3)] (w2 := [oX10 a_th (.int (0 : Int32)) q_text (.int v_textSize) (.int v_place) q_question (.int v_questionSize) (.int v_facts) (.int v_isSo) (.int v_common) (.int v_readFacts) (.int v_readSo) (.int v_readCommon) (.int v_readDay) (.ref a_page) (.long v_seed) q_book q_bookSeed (.int v_acts) (.ref a_kept) (.ref a_isKept) (.int v_told) q_toldSimple q_toldDay q_toldYes q_yesOf q_noOf q_factOf q_stack q_one q_two q_three, aI cZ a_isKept 2 (upd v_isKept (Int32.toNatClampNeg p_1) (vp_nar .boolean (1 : Int32))), aI cI a_page 12 v_page, aI cI a_kept 24 w7]) rfl (by decide) (fun H locs hP hS => ?_)
    obtain rfl := Option.some.inj hm
    subst hQ
    exact W.iret hx hb hr (fun t ht hW => ⟨⟨_, (), rfl, rfl, kb_h hP ht⟩, hS.F ht⟩) hS.2.2 dX10_keep_62
  · replace hm := ite_t c3 hm
    refine lv_iconst (v := (-1 : Int32)) hx hb dX10_keep_15 (by decide) ?_
    obtain rfl := Option.some.inj hm
    subst hQ
    exact W.iret hx hb hr (fun t ht hW => ⟨⟨_, (), rfl, rfl, kb_h hP ht⟩, hS.F ht⟩) hS.2.2 dX10_keep_16
set_option maxHeartbeats 4000000 in
set_option maxRecDepth 100000 in
theorem c_X10_again (l : Launch) (dC : Nat → ClassId) (dI : Nat → Nat → Nat) (cI cJ cZ cQ : ClassId) (t sz : Nat) (a_th : Nat) (a_isKept : Nat) (a_kept : Nat) (a_page : Nat) (q_text : Value) (q_question : Value) (q_book : Value) (q_bookSeed : Value) (q_toldSimple : Value) (q_toldDay : Value) (q_toldYes : Value) (q_yesOf : Value) (q_noOf : Value) (q_factOf : Value) (q_stack : Value) (q_one : Value) (q_two : Value) (q_three : Value) (v_thrown : Int32) (v_textSize : Int32) (v_place : Int32) (v_questionSize : Int32) (v_facts : Int32) (v_isSo : Int32) (v_common : Int32) (v_readFacts : Int32) (v_readSo : Int32) (v_readCommon : Int32) (v_readDay : Int32) (v_seed : Int64) (v_acts : Int32) (v_told : Int32) (v_isKept : (Nat → Int32)) (v_kept : (Nat → Int32)) (v_page : (Nat → Int32)) (p_1 : Int32) (o : Int32 × Int32 × Int32 × (Nat → Int32)) (hm : m_X10_again p_1 v_thrown v_acts v_isKept v_kept v_page = some o) : Met l yX10_again wsX10_again { frames := 2, cells := 0, slots := 0, locals := 44 } (va_Pc [.ref a_th, .int p_1] (cP (dC, dI) (kT cI cJ cZ cQ) t sz [oX10 a_th (.int v_thrown) q_text (.int v_textSize) (.int v_place) q_question (.int v_questionSize) (.int v_facts) (.int v_isSo) (.int v_common) (.int v_readFacts) (.int v_readSo) (.int v_readCommon) (.int v_readDay) (.ref a_page) (.long v_seed) q_book q_bookSeed (.int v_acts) (.ref a_kept) (.ref a_isKept) (.int v_told) q_toldSimple q_toldDay q_toldYes q_yesOf q_noOf q_factOf q_stack q_one q_two q_three, aI cZ a_isKept 2 v_isKept, aI cI a_kept 24 v_kept, aI cI a_page 12 v_page])) (cQi (dC, dI) (va_A [oX10 a_th (.int v_thrown) q_text (.int v_textSize) (.int v_place) q_question (.int v_questionSize) (.int v_facts) (.int v_isSo) (.int v_common) (.int v_readFacts) (.int v_readSo) (.int v_readCommon) (.int v_readDay) (.ref a_page) (.long v_seed) q_book q_bookSeed (.int v_acts) (.ref a_kept) (.ref a_isKept) (.int v_told) q_toldSimple q_toldDay q_toldYes q_yesOf q_noOf q_factOf q_stack q_one q_two q_three, aI cZ a_isKept 2 v_isKept, aI cI a_kept 24 v_kept, aI cI a_page 12 v_page] sz) o.1 [oX10 a_th (.int (o.2.1)) q_text (.int v_textSize) (.int v_place) q_question (.int v_questionSize) (.int v_facts) (.int v_isSo) (.int v_common) (.int v_readFacts) (.int v_readSo) (.int v_readCommon) (.int v_readDay) (.ref a_page) (.long v_seed) q_book q_bookSeed (.int (o.2.2.1)) (.ref a_kept) (.ref a_isKept) (.int v_told) q_toldSimple q_toldDay q_toldYes q_yesOf q_noOf q_factOf q_stack q_one q_two q_three, aI cZ a_isKept 2 v_isKept, aI cI a_kept 24 v_kept, aI cI a_page 12 (o.2.2.2)]) 0 0 (va_A [oX10 a_th (.int v_thrown) q_text (.int v_textSize) (.int v_place) q_question (.int v_questionSize) (.int v_facts) (.int v_isSo) (.int v_common) (.int v_readFacts) (.int v_readSo) (.int v_readCommon) (.int v_readDay) (.ref a_page) (.long v_seed) q_book q_bookSeed (.int v_acts) (.ref a_kept) (.ref a_isKept) (.int v_told) q_toldSimple q_toldDay q_toldYes q_yesOf q_noOf q_factOf q_stack q_one q_two q_three, aI cZ a_isKept 2 v_isKept, aI cI a_kept 24 v_kept, aI cI a_page 12 v_page] sz) := by
  refine Met.ofW (cc := cX10_again) (maxL := 3) (ret := (some .int)) (by decide) rfl ?_
  intro p e s m args below meth c s₁ B hml hv
  obtain ⟨rfl, hsz, hP, hK, hD0, hG⟩ := hv
  have hx := B.exec
  have hb := B.bytes
  have hr := B.returns
  have hts := atoms_spec (ws := wsX10_again) B.pre
  have hown : s.vm.findClass RX10 = some m.cls := findClass_of_methodNamed B.named
  have hlocks := B.notSynchronized
  subst hsz
  have hD := hD0.self (sz := s.heap.size)
  generalize hAe : va_A [oX10 a_th (.int v_thrown) q_text (.int v_textSize) (.int v_place) q_question (.int v_questionSize) (.int v_facts) (.int v_isSo) (.int v_common) (.int v_readFacts) (.int v_readSo) (.int v_readCommon) (.int v_readDay) (.ref a_page) (.long v_seed) q_book q_bookSeed (.int v_acts) (.ref a_kept) (.ref a_isKept) (.int v_told) q_toldSimple q_toldDay q_toldYes q_yesOf q_noOf q_factOf q_stack q_one q_two q_three, aI cZ a_isKept 2 v_isKept, aI cI a_kept 24 v_kept, aI cI a_page 12 v_page] s.heap.size = A at hD hG ⊢
  have hA : ∀ q : Nat, s.heap.size ≤ q → A q := fun q h => by rw [← hAe]; exact Or.inr h
  have hS : va_S A s.heap s.heap [] := va_S.rf
  have hl := lv_entry ([.ref a_th, .int p_1]) (n := 3) (Nat.le_of_ble_eq_true rfl)
  rw [lg_entry_eq]
  generalize (lg_sl ([.ref a_th, .int p_1]) ++ List.replicate (3 - (lg_sl ([.ref a_th, .int p_1])).length) Slot.unset).toArray = ls at hl ⊢
  have hl : lv_has ls 3 [(0, .ref a_th), (1, .int p_1)] := hl
  have iX10 : ∀ w ∈ wsX100, w ∈ wsX10_again := fun _ h => List.mem_cons_of_mem _ (List.mem_append_right _ h)
  have f66 := hts (.fieldLink RX10 66 "TrueOnceWeekModel" "thrown" "I") (by decide +kernel)
  have f29 := hts (.fieldLink RX10 29 "TrueOnceWeekModel" "isKept" "[Z") (by decide +kernel)
  have f16 := hts (.fieldLink RX10 16 "TrueOnceWeekModel" "page" "[I") (by decide +kernel)
  have f26 := hts (.fieldLink RX10 26 "TrueOnceWeekModel" "kept" "[I") (by decide +kernel)
  have f114 := hts (.fieldLink RX10 114 "TrueOnceWeekModel" "acts" "I") (by decide +kernel)
  refine kb_gen (fun Q hQ => ?_)
  unfold m_X10_again at hm
  refine lv_aload_n hx hb dX10_again_0 rfl (lv_at hl 0 rfl) ?_
  refine lv_iconst (v := (0 : Int32)) hx hb dX10_again_1 (by decide) ?_
  refine va_put (D := (dC, dI)) (ci := 8) (v := .int (0 : Int32)) (ty := .int) (C := RX10) (T := TX10) (N := 31) hx hb hts iX10 tyX10 tyX10_ok nmX10 hown hK hP (kb_D hD rfl) hS 0 rfl rfl 0 (by decide) f66 (fun _ h9 => h9) rfl (by decide +kernel) rfl rfl (Nat.le_of_ble_eq_true rfl) dX10_again_2 (fun H locs hP _ hS => ?_)
  have hP : va_P (dC, dI) vwCl [oX10 a_th (.int (0 : Int32)) q_text (.int v_textSize) (.int v_place) q_question (.int v_questionSize) (.int v_facts) (.int v_isSo) (.int v_common) (.int v_readFacts) (.int v_readSo) (.int v_readCommon) (.int v_readDay) (.ref a_page) (.long v_seed) q_book q_bookSeed (.int v_acts) (.ref a_kept) (.ref a_isKept) (.int v_told) q_toldSimple q_toldDay q_toldYes q_yesOf q_noOf q_factOf q_stack q_one q_two q_three, aI cZ a_isKept 2 v_isKept, aI cI a_kept 24 v_kept, aI cI a_page 12 v_page] H := hP
  refine lv_iload_n hx hb dX10_again_5 rfl (lv_at hl 1 rfl) ?_
  refine lv_i2l (v := (Int32.toInt64 p_1)) hx hb dX10_again_6 rfl ?_
  refine lv_lconst (v := (0 : Int64)) hx hb dX10_again_7 (by decide) ?_
  refine lv_lconst (v := (1 : Int64)) hx hb dX10_again_8 (by decide) ?_
  obtain ⟨r1, ho2, hm⟩ := bd1_s hm
  refine kb_calli (Rv := r1) (va_runS (As := [.long (Int32.toInt64 p_1), .long (0 : Int64), .long (1 : Int64)]) (rest := []) ⟨hx, hb, hml, hown, hts⟩ (c_X10_in l dC dI cI cJ cZ cQ t H.size (Int32.toInt64 p_1) (0 : Int64) (1 : Int64) (r1) ho2) (va_cwS 3 hts gX10_again_X10_in rfl rfl rfl (by decide +kernel) ⟨(Nat.le_of_ble_eq_true rfl), (Nat.le_of_ble_eq_true rfl)⟩) (kb_pre hK hG hP (kb_D hD rfl) hS hA [] rfl (by decide)) rfl rfl hl.1 rfl (lv_room (Nat.le_of_ble_eq_true rfl)) dX10_again_9 ⟨Nat.zero_le _, Nat.zero_le _⟩) hP (kb_D hD rfl) hS hA [] rfl [(false, 0), (false, 1), (false, 2), (false, 3)] (w2 := [oX10 a_th (.int (0 : Int32)) q_text (.int v_textSize) (.int v_place) q_question (.int v_questionSize) (.int v_facts) (.int v_isSo) (.int v_common) (.int v_readFacts) (.int v_readSo) (.int v_readCommon) (.int v_readDay) (.ref a_page) (.long v_seed) q_book q_bookSeed (.int v_acts) (.ref a_kept) (.ref a_isKept) (.int v_told) q_toldSimple q_toldDay q_toldYes q_yesOf q_noOf q_factOf q_stack q_one q_two q_three, aI cZ a_isKept 2 v_isKept, aI cI a_kept 24 v_kept, aI cI a_page 12 v_page]) rfl (by decide) (fun H locs hP hS => ?_)
  refine lv_if_ne (tgt := 17) hx hb dX10_again_12 (by decide) (fun c3 => ?_) (fun c3 => ?_)
  · replace hm := ite_f c3 hm
    refine lv_aload_n hx hb dX10_again_17 rfl (lv_at hl 0 rfl) ?_
    refine va_get (D := (dC, dI)) (ci := 8) (v := .ref a_isKept) (C := RX10) (T := TX10) (N := 31) hx hb hts iX10 hown hK hP 0 rfl rfl 19 (by decide) f29 (fun _ h9 => h9) rfl dX10_again_18 ?_
    refine lv_iload_n hx hb dX10_again_21 rfl (lv_at hl 1 rfl) ?_
    obtain ⟨h4, hm⟩ := gd_s hm
    refine va_zald hx hb hK hP 1 2 rfl rfl (inB_s h4) dX10_again_22 ?_
    refine lv_if_ne (tgt := 29) hx hb dX10_again_23 (by decide) (fun c5 => ?_) (fun c5 => ?_)
    · replace hm := ite_f c5 hm
      refine lv_iconst (v := (0 : Int32)) hx hb dX10_again_29 (by decide) ?_
      refine lv_istore_n (lv' := [(2, .int (0 : Int32)), (0, .ref a_th), (1, .int p_1)]) hx hb dX10_again_30 rfl hl (by decide) rfl (fun ls hl => ?_)
      have lp31 : ∀ (n31 : Nat) (x6 : Int32) (w7 : (Nat → Int32)) (k31 : (Nat → Int32) → Option (Int32 × Int32 × Int32 × (Nat → Int32))) (H : Heap) (locs : List Loc) (ls : Array Slot), L_X10_again_31 v_kept p_1 n31 x6 w7 k31 = some o → (∀ (w8 : (Nat → Int32)) (H : Heap) (locs : List Loc) (ls : Array Slot), k31 w8 = some o → va_P (dC, dI) vwCl [oX10 a_th (.int (0 : Int32)) q_text (.int v_textSize) (.int v_place) q_question (.int v_questionSize) (.int v_facts) (.int v_isSo) (.int v_common) (.int v_readFacts) (.int v_readSo) (.int v_readCommon) (.int v_readDay) (.ref a_page) (.long v_seed) q_book q_bookSeed (.int v_acts) (.ref a_kept) (.ref a_isKept) (.int v_told) q_toldSimple q_toldDay q_toldYes q_yesOf q_noOf q_factOf q_stack q_one q_two q_three, aI cZ a_isKept 2 v_isKept, aI cI a_kept 24 v_kept, aI cI a_page 12 w8] H → va_S A s.heap H locs → lv_has ls 3 [(0, .ref a_th)] → W p l e (headSpec wsX10_again { frames := 2, cells := 0, slots := 0, locals := 44 }).room s m [.ref a_th, .int p_1].toArray below meth c H locs 0 0 Q (F0 m 60 ls [])) → va_P (dC, dI) vwCl [oX10 a_th (.int (0 : Int32)) q_text (.int v_textSize) (.int v_place) q_question (.int v_questionSize) (.int v_facts) (.int v_isSo) (.int v_common) (.int v_readFacts) (.int v_readSo) (.int v_readCommon) (.int v_readDay) (.ref a_page) (.long v_seed) q_book q_bookSeed (.int v_acts) (.ref a_kept) (.ref a_isKept) (.int v_told) q_toldSimple q_toldDay q_toldYes q_yesOf q_noOf q_factOf q_stack q_one q_two q_three, aI cZ a_isKept 2 v_isKept, aI cI a_kept 24 v_kept, aI cI a_page 12 w7] H → va_S A s.heap H locs → lv_has ls 3 [(0, .ref a_th), (1, .int p_1), (2, .int x6)] → W p l e (headSpec wsX10_again { frames := 2, cells := 0, slots := 0, locals := 44 }).room s m [.ref a_th, .int p_1].toArray below meth c H locs 0 0 Q (F0 m 31 ls []) := by
        intro n31
        induction n31 with
        | zero =>
          intro x6 w7 k31 H locs ls hm
          cases (show (none : Option (Int32 × Int32 × Int32 × (Nat → Int32))) = some o from hm)
        | succ n31 ih31 =>
          intro x6 w7 k31 H locs ls hm hk31 hP hS hl
          rw [L_X10_again_31.eq_2] at hm
          refine lv_iload_n hx hb dX10_again_31 rfl (lv_at hl 2 rfl) ?_
          refine lv_bipush (v := (12 : Int32)) hx hb dX10_again_32 (by decide) ?_
          refine lv_icmp_ge (tgt := 60) hx hb dX10_again_34 (by decide) (fun c9 => ?_) (fun c9 => ?_)
          · replace hm := ite_t c9 hm
            exact hk31 w7 _ _ _ hm hP hS (lv_sub hl [0] rfl)
          · replace hm := ite_f c9 hm
            refine lv_aload_n hx hb dX10_again_37 rfl (lv_at hl 0 rfl) ?_
            refine va_get (D := (dC, dI)) (ci := 8) (v := .ref a_page) (C := RX10) (T := TX10) (N := 31) hx hb hts iX10 hown hK hP 0 rfl rfl 13 (by decide) f16 (fun _ h9 => h9) rfl dX10_again_38 ?_
            refine lv_iload_n hx hb dX10_again_41 rfl (lv_at hl 2 rfl) ?_
            refine lv_aload_n hx hb dX10_again_42 rfl (lv_at hl 0 rfl) ?_
            refine va_get (D := (dC, dI)) (ci := 8) (v := .ref a_kept) (C := RX10) (T := TX10) (N := 31) hx hb hts iX10 hown hK hP 0 rfl rfl 18 (by decide) f26 (fun _ h9 => h9) rfl dX10_again_43 ?_
            refine lv_bipush (v := (12 : Int32)) hx hb dX10_again_46 (by decide) ?_
            refine lv_iload_n hx hb dX10_again_48 rfl (lv_at hl 1 rfl) ?_
            refine lv_imul hx hb dX10_again_49 ?_
            refine lv_iload_n hx hb dX10_again_50 rfl (lv_at hl 2 rfl) ?_
            refine lv_iadd hx hb dX10_again_51 ?_
            obtain ⟨h10, hm⟩ := gd_s hm
            refine va_iald hx hb hK hP 2 0 rfl rfl (inB_s h10) dX10_again_52 ?_
            obtain ⟨h11, hm⟩ := gd_s hm
            refine va_iast hx hb hK hP (kb_D hD rfl) hS 3 0 rfl rfl (inB_s h11) dX10_again_53 (fun H locs hP _ hS => ?_)
            have hP : va_P (dC, dI) vwCl [oX10 a_th (.int (0 : Int32)) q_text (.int v_textSize) (.int v_place) q_question (.int v_questionSize) (.int v_facts) (.int v_isSo) (.int v_common) (.int v_readFacts) (.int v_readSo) (.int v_readCommon) (.int v_readDay) (.ref a_page) (.long v_seed) q_book q_bookSeed (.int v_acts) (.ref a_kept) (.ref a_isKept) (.int v_told) q_toldSimple q_toldDay q_toldYes q_yesOf q_noOf q_factOf q_stack q_one q_two q_three, aI cZ a_isKept 2 v_isKept, aI cI a_kept 24 v_kept, aI cI a_page 12 (upd w7 (Int32.toNatClampNeg x6) (v_kept (Int32.toNatClampNeg (((12 : Int32) * p_1) + x6))))] H := hP
            obtain ⟨x12, ex12⟩ : ∃ y : Int32, y = x6 + (1 : Int32) := ⟨_, rfl⟩
            replace hm := nm_t ex12 hm
            refine lv_iinc (v := x12) (lv' := [(2, .int x12), (0, .ref a_th), (1, .int p_1)]) hx hb dX10_again_54 hl (k := 2) rfl (by rw [ex12]; rfl) (by decide) rfl (fun ls hl => ?_)
            refine lv_goto (tgt := 31) hx hb dX10_again_57 (by decide) ?_
            exact ih31 x12 (upd w7 (Int32.toNatClampNeg x6) (v_kept (Int32.toNatClampNeg (((12 : Int32) * p_1) + x6)))) k31 _ _ _ hm hk31 hP hS (lv_sub hl [1, 2, 0] rfl)
      refine lp31 1024 (0 : Int32) v_page _ _ _ _ hm (fun w8 H locs ls hm hP hS hl => ?_) hP hS (lv_sub hl [1, 2, 0] rfl)
      refine lv_aload_n hx hb dX10_again_60 rfl (lv_at hl 0 rfl) ?_
      refine lv_iconst (v := (0 : Int32)) hx hb dX10_again_61 (by decide) ?_
      refine va_put (D := (dC, dI)) (ci := 8) (v := .int (0 : Int32)) (ty := .int) (C := RX10) (T := TX10) (N := 31) hx hb hts iX10 tyX10 tyX10_ok nmX10 hown hK hP (kb_D hD rfl) hS 0 rfl rfl 17 (by decide) f114 (fun _ h9 => h9) rfl (by decide +kernel) rfl rfl (Nat.le_of_ble_eq_true rfl) dX10_again_62 (fun H locs hP _ hS => ?_)
      have hP : va_P (dC, dI) vwCl [oX10 a_th (.int (0 : Int32)) q_text (.int v_textSize) (.int v_place) q_question (.int v_questionSize) (.int v_facts) (.int v_isSo) (.int v_common) (.int v_readFacts) (.int v_readSo) (.int v_readCommon) (.int v_readDay) (.ref a_page) (.long v_seed) q_book q_bookSeed (.int (0 : Int32)) (.ref a_kept) (.ref a_isKept) (.int v_told) q_toldSimple q_toldDay q_toldYes q_yesOf q_noOf q_factOf q_stack q_one q_two q_three, aI cZ a_isKept 2 v_isKept, aI cI a_kept 24 v_kept, aI cI a_page 12 w8] H := hP
      refine lv_aload_n hx hb dX10_again_65 rfl (lv_at hl 0 rfl) ?_
      refine va_get (D := (dC, dI)) (ci := 8) (v := .ref a_page) (C := RX10) (T := TX10) (N := 31) hx hb hts iX10 hown hK hP 0 rfl rfl 13 (by decide) f16 (fun _ h9 => h9) rfl dX10_again_66 ?_
      obtain ⟨r13, ho14, hm⟩ := bd1_s hm
      refine kb_calli (Rv := r13) (va_runS (As := [.ref a_page]) (rest := []) ⟨hx, hb, hml, hown, hts⟩ (c_X10_knownMany l dC dI cI cJ cZ cQ t H.size a_page 12 w8 (r13) ho14) (va_cwS 1 hts gX10_again_X10_knownMany rfl rfl rfl (by decide +kernel) ⟨(Nat.le_of_ble_eq_true rfl), (Nat.le_of_ble_eq_true rfl)⟩) (kb_pre hK hG hP (kb_D hD rfl) hS hA [3] rfl (by decide)) rfl rfl hl.1 rfl (lv_room (Nat.le_of_ble_eq_true rfl)) dX10_again_69 ⟨Nat.zero_le _, Nat.zero_le _⟩) hP (kb_D hD rfl) hS hA [3] rfl [(false, 0), (false, 1), (false, 2), (true, 0)] (w2 := [oX10 a_th (.int (0 : Int32)) q_text (.int v_textSize) (.int v_place) q_question (.int v_questionSize) (.int v_facts) (.int v_isSo) (.int v_common) (.int v_readFacts) (.int v_readSo) (.int v_readCommon) (.int v_readDay) (.ref a_page) (.long v_seed) q_book q_bookSeed (.int (0 : Int32)) (.ref a_kept) (.ref a_isKept) (.int v_told) q_toldSimple q_toldDay q_toldYes q_yesOf q_noOf q_factOf q_stack q_one q_two q_three, aI cZ a_isKept 2 v_isKept, aI cI a_kept 24 v_kept, aI cI a_page 12 w8]) rfl (by decide) (fun H locs hP hS => ?_)
      obtain rfl := Option.some.inj hm
      subst hQ
      exact W.iret hx hb hr (fun t ht hW => ⟨⟨_, (), rfl, rfl, kb_h hP ht⟩, hS.F ht⟩) hS.2.2 dX10_again_72
    · replace hm := ite_t c5 hm
      refine lv_bipush (v := (-3 : Int32)) hx hb dX10_again_26 (by decide) ?_
      obtain rfl := Option.some.inj hm
      subst hQ
      exact W.iret hx hb hr (fun t ht hW => ⟨⟨_, (), rfl, rfl, kb_h hP ht⟩, hS.F ht⟩) hS.2.2 dX10_again_28
  · replace hm := ite_t c3 hm
    refine lv_iconst (v := (-1 : Int32)) hx hb dX10_again_15 (by decide) ?_
    obtain rfl := Option.some.inj hm
    subst hQ
    exact W.iret hx hb hr (fun t ht hW => ⟨⟨_, (), rfl, rfl, kb_h hP ht⟩, hS.F ht⟩) hS.2.2 dX10_again_16
set_option maxHeartbeats 4000000 in
set_option maxRecDepth 100000 in
theorem c_X3_init_k24 (l : Launch) (dC : Nat → ClassId) (dI : Nat → Nat → Nat) (cI cJ cZ cQ : ClassId) (t sz : Nat) (a_th : Nat) (o : Unit) (hm : m_X3_init_k24 = some o) : Met l yX3_init wsX3_init { frames := 1, cells := 1, slots := 24, locals := 21 } (va_Pc [.ref a_th, .int (24 : Int32)] (cP (dC, dI) (kT cI cJ cZ cQ) t sz [oX3 a_th .null (.int (0 : Int32))])) (va_Qv (S := Nat) (fun _ => True) (fun u v => va_P (dC, dI) vwCl [oX3 a_th (.ref u) (.int (0 : Int32)), aI cI u 24 (fun _ => (0 : Int32))] v.heap ∧ va_D (va_A [oX3 a_th .null (.int (0 : Int32))] sz) [oX3 a_th (.ref u) (.int (0 : Int32)), aI cI u 24 (fun _ => (0 : Int32))]) (va_A [oX3 a_th .null (.int (0 : Int32))] sz)) 1 24 (va_A [oX3 a_th .null (.int (0 : Int32))] sz) := by
  refine Met.ofW (cc := cX3_init) (maxL := 2) (ret := none) (by decide) rfl ?_
  intro p e s m args below meth c s₁ B hml hv
  obtain ⟨rfl, hsz, hP, hK, hD0, hG⟩ := hv
  have hx := B.exec
  have hb := B.bytes
  have hr := B.returns
  have hts := atoms_spec (ws := wsX3_init) B.pre
  have hown : s.vm.findClass RX3 = some m.cls := findClass_of_methodNamed B.named
  have hlocks := B.notSynchronized
  have hin : meth.name = "<init>" := (name_of_methodNamed B.named B.method).1
  subst hsz
  have hD := hD0.self (sz := s.heap.size)
  generalize hAe : va_A [oX3 a_th .null (.int (0 : Int32))] s.heap.size = A at hD hG ⊢
  have hA : ∀ q : Nat, s.heap.size ≤ q → A q := fun q h => by rw [← hAe]; exact Or.inr h
  have hS : va_S A s.heap s.heap [] := va_S.rf
  have hl := lv_entry ([.ref a_th, .int (24 : Int32)]) (n := 2) (Nat.le_of_ble_eq_true rfl)
  rw [lg_entry_eq]
  generalize (lg_sl ([.ref a_th, .int (24 : Int32)]) ++ List.replicate (2 - (lg_sl ([.ref a_th, .int (24 : Int32)])).length) Slot.unset).toArray = ls at hl ⊢
  have hl : lv_has ls 2 [(0, .ref a_th), (1, .int (24 : Int32))] := hl
  have iX3 : ∀ w ∈ wsX30, w ∈ wsX3_init := fun _ h => List.mem_cons_of_mem _ (List.mem_append_right _ h)
  have ol := hts (.methodLink RX3 3 objectInit) (by decide +kernel)
  have oi := hts (.instanceMethod objectInit) (by decide +kernel)
  have oc := hts (.code objectInit ⟨#[0xb1]⟩ 1 none) (by decide +kernel)
  have ml9 := hts (.methodLink RX3 9 Lib.Math.max.name) (by decide +kernel)
  have ms9 := hts (.static Lib.Math.max.name) (by decide +kernel)
  have mi9 := hts (.initialized "java/lang/Math") (by decide +kernel)
  have mc9 := hts (.code Lib.Math.max.name Lib.Math.max.code 2 (some .int)) (by decide +kernel)
  have acint := hts (.arrayClass .int) (by decide +kernel)
  have f15 := hts (.fieldLink RX3 15 "TrueOnceWeek$Letters" "bytes" "[I") (by decide +kernel)
  refine kb_gen (fun Q hQ => ?_)
  unfold m_X3_init_k24 at hm
  refine lv_aload_n hx hb dX3_init_0 rfl (lv_at hl 0 rfl) ?_
  refine W.objInit hx hb hown ol oi oc rfl (by rw [hml]; exact hl.1) rfl dX3_init_1 (Nat.le_of_ble_eq_true rfl) (Nat.le_of_ble_eq_true rfl) ?_
  refine W.eq (g2 := F0 m 4 ls []) rfl ?_
  refine lv_aload_n hx hb dX3_init_4 rfl (lv_at hl 0 rfl) ?_
  refine lv_iconst (v := (0 : Int32)) hx hb dX3_init_5 (by decide) ?_
  refine lv_iload_n hx hb dX3_init_6 rfl (lv_at hl 1 rfl) ?_
  refine va_mmax hx hb (by rw [hml]; exact hl.1.symm) hown ml9 ms9 mi9 mc9 (Nat.le_of_ble_eq_true rfl) (Nat.le_of_ble_eq_true rfl) (Nat.zero_le _) (Nat.zero_le _) dX3_init_7 ?_
  refine lv_topi (fun z1 ez1 => ?_)
  obtain rfl : z1 = (24 : Int32) := ez1.trans (by decide)
  refine kb_newa (atype := .int) (ty := .int) (N' := 24) (a0 := (24, .inl (fun _ => 0))) hx hb acint rfl hK 0 rfl rfl hP hD hS hA (fun _ => rfl) (by decide) (by decide) (Nat.le_of_ble_eq_true rfl) (Nat.le_of_ble_eq_true rfl) (Nat.le_of_ble_eq_true rfl) dX3_init_10 (fun a_bytes H hP hD hS => ?_)
  have hP : va_P (dC, dI) vwCl [oX3 a_th .null (.int (0 : Int32)), aI cI a_bytes 24 (fun _ => (0 : Int32))] H := hP
  have hD : va_D A [oX3 a_th .null (.int (0 : Int32)), aI cI a_bytes 24 (fun _ => (0 : Int32))] := hD
  refine W.widen (k := 1) (n := 24) (by omega) (by omega) ?_
  refine va_putF (D := (dC, dI)) (ci := 3) (v := .ref a_bytes) (ty := .array .int) (C := RX3) (T := TX3) (N := 2) hx hb hts iX3 tyX3 tyX3_ok nmX3 hown hK hP hD hS 0 rfl rfl 0 (by decide) f15 (fun _ h9 => h9) rfl hin rfl (by decide +kernel) rfl rfl (Nat.le_of_ble_eq_true rfl) dX3_init_12 (fun H locs hP hD hS => ?_)
  have hP : va_P (dC, dI) vwCl [oX3 a_th (.ref a_bytes) (.int (0 : Int32)), aI cI a_bytes 24 (fun _ => (0 : Int32))] H := hP
  have hD : va_D A [oX3 a_th (.ref a_bytes) (.int (0 : Int32)), aI cI a_bytes 24 (fun _ => (0 : Int32))] := hD
  obtain rfl := Option.some.inj hm
  subst hQ
  exact W.vret hx hb hr (fun t ht hW => ⟨⟨(a_bytes), rfl, trivial, kb_h hP ht, kb_D hD rfl⟩, hS.F ht⟩) hS.2.2 dX3_init_15
set_option maxHeartbeats 4000000 in
set_option maxRecDepth 100000 in
theorem c_X3_init_k16 (l : Launch) (dC : Nat → ClassId) (dI : Nat → Nat → Nat) (cI cJ cZ cQ : ClassId) (t sz : Nat) (a_th : Nat) (o : Unit) (hm : m_X3_init_k16 = some o) : Met l yX3_init wsX3_init { frames := 1, cells := 1, slots := 16, locals := 21 } (va_Pc [.ref a_th, .int (16 : Int32)] (cP (dC, dI) (kT cI cJ cZ cQ) t sz [oX3 a_th .null (.int (0 : Int32))])) (va_Qv (S := Nat) (fun _ => True) (fun u v => va_P (dC, dI) vwCl [oX3 a_th (.ref u) (.int (0 : Int32)), aI cI u 16 (fun _ => (0 : Int32))] v.heap ∧ va_D (va_A [oX3 a_th .null (.int (0 : Int32))] sz) [oX3 a_th (.ref u) (.int (0 : Int32)), aI cI u 16 (fun _ => (0 : Int32))]) (va_A [oX3 a_th .null (.int (0 : Int32))] sz)) 1 16 (va_A [oX3 a_th .null (.int (0 : Int32))] sz) := by
  refine Met.ofW (cc := cX3_init) (maxL := 2) (ret := none) (by decide) rfl ?_
  intro p e s m args below meth c s₁ B hml hv
  obtain ⟨rfl, hsz, hP, hK, hD0, hG⟩ := hv
  have hx := B.exec
  have hb := B.bytes
  have hr := B.returns
  have hts := atoms_spec (ws := wsX3_init) B.pre
  have hown : s.vm.findClass RX3 = some m.cls := findClass_of_methodNamed B.named
  have hlocks := B.notSynchronized
  have hin : meth.name = "<init>" := (name_of_methodNamed B.named B.method).1
  subst hsz
  have hD := hD0.self (sz := s.heap.size)
  generalize hAe : va_A [oX3 a_th .null (.int (0 : Int32))] s.heap.size = A at hD hG ⊢
  have hA : ∀ q : Nat, s.heap.size ≤ q → A q := fun q h => by rw [← hAe]; exact Or.inr h
  have hS : va_S A s.heap s.heap [] := va_S.rf
  have hl := lv_entry ([.ref a_th, .int (16 : Int32)]) (n := 2) (Nat.le_of_ble_eq_true rfl)
  rw [lg_entry_eq]
  generalize (lg_sl ([.ref a_th, .int (16 : Int32)]) ++ List.replicate (2 - (lg_sl ([.ref a_th, .int (16 : Int32)])).length) Slot.unset).toArray = ls at hl ⊢
  have hl : lv_has ls 2 [(0, .ref a_th), (1, .int (16 : Int32))] := hl
  have iX3 : ∀ w ∈ wsX30, w ∈ wsX3_init := fun _ h => List.mem_cons_of_mem _ (List.mem_append_right _ h)
  have ol := hts (.methodLink RX3 3 objectInit) (by decide +kernel)
  have oi := hts (.instanceMethod objectInit) (by decide +kernel)
  have oc := hts (.code objectInit ⟨#[0xb1]⟩ 1 none) (by decide +kernel)
  have ml9 := hts (.methodLink RX3 9 Lib.Math.max.name) (by decide +kernel)
  have ms9 := hts (.static Lib.Math.max.name) (by decide +kernel)
  have mi9 := hts (.initialized "java/lang/Math") (by decide +kernel)
  have mc9 := hts (.code Lib.Math.max.name Lib.Math.max.code 2 (some .int)) (by decide +kernel)
  have acint := hts (.arrayClass .int) (by decide +kernel)
  have f15 := hts (.fieldLink RX3 15 "TrueOnceWeek$Letters" "bytes" "[I") (by decide +kernel)
  refine kb_gen (fun Q hQ => ?_)
  unfold m_X3_init_k16 at hm
  refine lv_aload_n hx hb dX3_init_0 rfl (lv_at hl 0 rfl) ?_
  refine W.objInit hx hb hown ol oi oc rfl (by rw [hml]; exact hl.1) rfl dX3_init_1 (Nat.le_of_ble_eq_true rfl) (Nat.le_of_ble_eq_true rfl) ?_
  refine W.eq (g2 := F0 m 4 ls []) rfl ?_
  refine lv_aload_n hx hb dX3_init_4 rfl (lv_at hl 0 rfl) ?_
  refine lv_iconst (v := (0 : Int32)) hx hb dX3_init_5 (by decide) ?_
  refine lv_iload_n hx hb dX3_init_6 rfl (lv_at hl 1 rfl) ?_
  refine va_mmax hx hb (by rw [hml]; exact hl.1.symm) hown ml9 ms9 mi9 mc9 (Nat.le_of_ble_eq_true rfl) (Nat.le_of_ble_eq_true rfl) (Nat.zero_le _) (Nat.zero_le _) dX3_init_7 ?_
  refine lv_topi (fun z1 ez1 => ?_)
  obtain rfl : z1 = (16 : Int32) := ez1.trans (by decide)
  refine kb_newa (atype := .int) (ty := .int) (N' := 16) (a0 := (16, .inl (fun _ => 0))) hx hb acint rfl hK 0 rfl rfl hP hD hS hA (fun _ => rfl) (by decide) (by decide) (Nat.le_of_ble_eq_true rfl) (Nat.le_of_ble_eq_true rfl) (Nat.le_of_ble_eq_true rfl) dX3_init_10 (fun a_bytes H hP hD hS => ?_)
  have hP : va_P (dC, dI) vwCl [oX3 a_th .null (.int (0 : Int32)), aI cI a_bytes 16 (fun _ => (0 : Int32))] H := hP
  have hD : va_D A [oX3 a_th .null (.int (0 : Int32)), aI cI a_bytes 16 (fun _ => (0 : Int32))] := hD
  refine W.widen (k := 1) (n := 16) (by omega) (by omega) ?_
  refine va_putF (D := (dC, dI)) (ci := 3) (v := .ref a_bytes) (ty := .array .int) (C := RX3) (T := TX3) (N := 2) hx hb hts iX3 tyX3 tyX3_ok nmX3 hown hK hP hD hS 0 rfl rfl 0 (by decide) f15 (fun _ h9 => h9) rfl hin rfl (by decide +kernel) rfl rfl (Nat.le_of_ble_eq_true rfl) dX3_init_12 (fun H locs hP hD hS => ?_)
  have hP : va_P (dC, dI) vwCl [oX3 a_th (.ref a_bytes) (.int (0 : Int32)), aI cI a_bytes 16 (fun _ => (0 : Int32))] H := hP
  have hD : va_D A [oX3 a_th (.ref a_bytes) (.int (0 : Int32)), aI cI a_bytes 16 (fun _ => (0 : Int32))] := hD
  obtain rfl := Option.some.inj hm
  subst hQ
  exact W.vret hx hb hr (fun t ht hW => ⟨⟨(a_bytes), rfl, trivial, kb_h hP ht, kb_D hD rfl⟩, hS.F ht⟩) hS.2.2 dX3_init_15
set_option maxHeartbeats 4000000 in
set_option maxRecDepth 100000 in
theorem c_X5_init (l : Launch) (dC : Nat → ClassId) (dI : Nat → Nat → Nat) (cI cJ cZ cQ : ClassId) (t sz : Nat) (a_th : Nat) (o : Unit) (hm : m_X5_init = some o) : Met l yX5_init wsX5_init { frames := 2, cells := 3, slots := 34, locals := 42 } (va_Pc [.ref a_th] (cP (dC, dI) (kT cI cJ cZ cQ) t sz [oX5 a_th .null .null])) (va_Qv (S := Nat × Nat × Nat) (fun _ => True) (fun u v => va_P (dC, dI) vwCl [oX5 a_th (.ref (u.1)) (.ref (u.2.2)), oX3 (u.1) (.ref (u.2.1)) (.int (0 : Int32)), aI cI (u.2.1) 16 (fun _ => (0 : Int32)), aI cI (u.2.2) 16 (fun _ => (0 : Int32))] v.heap ∧ va_D (va_A [oX5 a_th .null .null] sz) [oX5 a_th (.ref (u.1)) (.ref (u.2.2)), oX3 (u.1) (.ref (u.2.1)) (.int (0 : Int32)), aI cI (u.2.1) 16 (fun _ => (0 : Int32)), aI cI (u.2.2) 16 (fun _ => (0 : Int32))]) (va_A [oX5 a_th .null .null] sz)) 3 34 (va_A [oX5 a_th .null .null] sz) := by
  refine Met.ofW (cc := cX5_init) (maxL := 1) (ret := none) (by decide) rfl ?_
  intro p e s m args below meth c s₁ B hml hv
  obtain ⟨rfl, hsz, hP, hK, hD0, hG⟩ := hv
  have hx := B.exec
  have hb := B.bytes
  have hr := B.returns
  have hts := atoms_spec (ws := wsX5_init) B.pre
  have hown : s.vm.findClass RX5 = some m.cls := findClass_of_methodNamed B.named
  have hlocks := B.notSynchronized
  have hin : meth.name = "<init>" := (name_of_methodNamed B.named B.method).1
  subst hsz
  have hD := hD0.self (sz := s.heap.size)
  generalize hAe : va_A [oX5 a_th .null .null] s.heap.size = A at hD hG ⊢
  have hA : ∀ q : Nat, s.heap.size ≤ q → A q := fun q h => by rw [← hAe]; exact Or.inr h
  have hS : va_S A s.heap s.heap [] := va_S.rf
  have hl := lv_entry ([.ref a_th]) (n := 1) (Nat.le_of_ble_eq_true rfl)
  rw [lg_entry_eq]
  generalize (lg_sl ([.ref a_th]) ++ List.replicate (1 - (lg_sl ([.ref a_th])).length) Slot.unset).toArray = ls at hl ⊢
  have hl : lv_has ls 1 [(0, .ref a_th)] := hl
  have iX3 : ∀ w ∈ wsX30, w ∈ wsX5_init := fun _ h => List.mem_cons_of_mem _ (List.mem_append_left _ (List.mem_append_right _ h))
  have iX5 : ∀ w ∈ wsX50, w ∈ wsX5_init := fun _ h => List.mem_cons_of_mem _ (List.mem_append_right _ h)
  have ol := hts (.methodLink RX5 3 objectInit) (by decide +kernel)
  have oi := hts (.instanceMethod objectInit) (by decide +kernel)
  have oc := hts (.code objectInit ⟨#[0xb1]⟩ 1 none) (by decide +kernel)
  have nc9 := hts (.classLink RX5 9 RX3) (by decide +kernel)
  have nn9 := hts (.instantiable RX3 2) (by decide +kernel)
  have ni9 := hts (.initialized RX3) (by decide +kernel)
  have vi11 := hts (.initialized RX3) (by decide +kernel)
  have vm11 := hts (.instanceMethod yX3_init) (by decide +kernel)
  have vl11 := hts (.methodLink RX5 11 yX3_init) (by decide +kernel)
  have f14 := hts (.fieldLink RX5 14 "TrueOnceWeek$Question" "letters" "LTrueOnceWeek$Letters;") (by decide +kernel)
  have acint := hts (.arrayClass .int) (by decide +kernel)
  have f20 := hts (.fieldLink RX5 20 "TrueOnceWeek$Question" "stack" "[I") (by decide +kernel)
  refine kb_gen (fun Q hQ => ?_)
  unfold m_X5_init at hm
  refine lv_aload_n hx hb dX5_init_0 rfl (lv_at hl 0 rfl) ?_
  refine W.objInit hx hb hown ol oi oc rfl (by rw [hml]; exact hl.1) rfl dX5_init_1 (Nat.le_of_ble_eq_true rfl) (Nat.le_of_ble_eq_true rfl) ?_
  refine W.eq (g2 := F0 m 4 ls []) rfl ?_
  refine lv_aload_n hx hb dX5_init_4 rfl (lv_at hl 0 rfl) ?_
  refine va_new (ci := 3) (fs := [.null, .int 0]) (C := RX3) (T := TX3) (N := 2) hx hb hts iX3 tyX3 tyX3_ok hown nc9 nn9 ni9 hK hP hD hS hA rfl (fun j hj => by rcases (show j = 0 ∨ j = 1 by omega) with rfl | rfl <;> rfl) (Nat.le_of_ble_eq_true rfl) (Nat.le_of_ble_eq_true rfl) dX5_init_5 (fun a_letters H hP hD hS => ?_)
  have hP : va_P (dC, dI) vwCl [oX5 a_th .null .null, oX3 a_letters .null (.int (0 : Int32))] H := hP
  have hD : va_D A [oX5 a_th .null .null, oX3 a_letters .null (.int (0 : Int32))] := hD
  refine W.widen (k := 1) (n := 2) (by omega) (by omega) ?_
  refine lv_dup hx hb dX5_init_8 rfl ?_
  refine lv_bipush (v := (16 : Int32)) hx hb dX5_init_9 (by decide) ?_
  have hFc := va_free (wc := [oX3 a_letters .null (.int (0 : Int32))]) hD hS hA [1] rfl
  refine va_callv (va_runI (As := [.int (16 : Int32)]) (rest := [.ref a_letters, .ref a_th]) ⟨hx, hb, hml, hown, hts⟩ (c_X3_init_k16 l dC dI cI cJ cZ cQ t H.size a_letters () rfl) (cwI 1 hts gX5_init_X3_init rfl rfl rfl vi11 vl11 vm11 rfl (by decide +kernel) ⟨(Nat.le_of_ble_eq_true rfl), (Nat.le_of_ble_eq_true rfl)⟩) (kb_pre hK hG hP hD hS hA [1] rfl (by decide)) rfl rfl hl.1 rfl (lv_room (Nat.le_of_ble_eq_true rfl)) dX5_init_11 ⟨(Nat.le_of_ble_eq_true rfl), (Nat.le_of_ble_eq_true rfl)⟩) hS (fun q _ h => hFc q h) hFc (fun u v H1 locs ht hvm hw hB hz1 hk1 hS => ?_)
  obtain ⟨a_letters_bytes, rfl⟩ : ∃ z, z = u := ⟨_, rfl⟩
  obtain ⟨hP1, hD1⟩ := hB
  rw [ht] at hP1
  obtain ⟨hP, hD⟩ := va_join (wr := [oX5 a_th .null .null]) (w1 := [oX3 a_letters (.ref a_letters_bytes) (.int (0 : Int32)), aI cI a_letters_bytes 16 (fun _ => (0 : Int32))]) hP hD [1] [0] rfl rfl (by decide) (by decide) hk1 hFc hP1 hD1
  generalize H1 = H at hP hS ⊢
  have hP : va_P (dC, dI) vwCl [oX5 a_th .null .null, oX3 a_letters (.ref a_letters_bytes) (.int (0 : Int32)), aI cI a_letters_bytes 16 (fun _ => (0 : Int32))] H := hP
  have hD : va_D A [oX5 a_th .null .null, oX3 a_letters (.ref a_letters_bytes) (.int (0 : Int32)), aI cI a_letters_bytes 16 (fun _ => (0 : Int32))] := hD
  refine W.widen (k := 2) (n := 18) (by omega) (by omega) ?_
  refine va_putF (D := (dC, dI)) (ci := 5) (v := .ref a_letters) (ty := .object "TrueOnceWeek$Letters") (C := RX5) (T := TX5) (N := 2) hx hb hts iX5 tyX5 tyX5_ok nmX5 hown hK hP hD hS 0 rfl rfl 0 (by decide) f14 (fun _ h9 => h9) rfl hin rfl (by decide +kernel) rfl rfl (Nat.le_of_ble_eq_true rfl) dX5_init_14 (fun H locs hP hD hS => ?_)
  have hP : va_P (dC, dI) vwCl [oX5 a_th (.ref a_letters) .null, oX3 a_letters (.ref a_letters_bytes) (.int (0 : Int32)), aI cI a_letters_bytes 16 (fun _ => (0 : Int32))] H := hP
  have hD : va_D A [oX5 a_th (.ref a_letters) .null, oX3 a_letters (.ref a_letters_bytes) (.int (0 : Int32)), aI cI a_letters_bytes 16 (fun _ => (0 : Int32))] := hD
  refine lv_aload_n hx hb dX5_init_17 rfl (lv_at hl 0 rfl) ?_
  refine lv_bipush (v := (16 : Int32)) hx hb dX5_init_18 (by decide) ?_
  refine kb_newa (atype := .int) (ty := .int) (N' := 16) (a0 := (16, .inl (fun _ => 0))) hx hb acint rfl hK 0 rfl rfl hP hD hS hA (fun _ => rfl) (by decide) (by decide) (Nat.le_of_ble_eq_true rfl) (Nat.le_of_ble_eq_true rfl) (Nat.le_of_ble_eq_true rfl) dX5_init_20 (fun a_stack H hP hD hS => ?_)
  have hP : va_P (dC, dI) vwCl [oX5 a_th (.ref a_letters) .null, oX3 a_letters (.ref a_letters_bytes) (.int (0 : Int32)), aI cI a_letters_bytes 16 (fun _ => (0 : Int32)), aI cI a_stack 16 (fun _ => (0 : Int32))] H := hP
  have hD : va_D A [oX5 a_th (.ref a_letters) .null, oX3 a_letters (.ref a_letters_bytes) (.int (0 : Int32)), aI cI a_letters_bytes 16 (fun _ => (0 : Int32)), aI cI a_stack 16 (fun _ => (0 : Int32))] := hD
  refine W.widen (k := 3) (n := 34) (by omega) (by omega) ?_
  refine va_putF (D := (dC, dI)) (ci := 5) (v := .ref a_stack) (ty := .array .int) (C := RX5) (T := TX5) (N := 2) hx hb hts iX5 tyX5 tyX5_ok nmX5 hown hK hP hD hS 0 rfl rfl 1 (by decide) f20 (fun _ h9 => h9) rfl hin rfl (by decide +kernel) rfl rfl (Nat.le_of_ble_eq_true rfl) dX5_init_22 (fun H locs hP hD hS => ?_)
  have hP : va_P (dC, dI) vwCl [oX5 a_th (.ref a_letters) (.ref a_stack), oX3 a_letters (.ref a_letters_bytes) (.int (0 : Int32)), aI cI a_letters_bytes 16 (fun _ => (0 : Int32)), aI cI a_stack 16 (fun _ => (0 : Int32))] H := hP
  have hD : va_D A [oX5 a_th (.ref a_letters) (.ref a_stack), oX3 a_letters (.ref a_letters_bytes) (.int (0 : Int32)), aI cI a_letters_bytes 16 (fun _ => (0 : Int32)), aI cI a_stack 16 (fun _ => (0 : Int32))] := hD
  obtain rfl := Option.some.inj hm
  subst hQ
  exact W.vret hx hb hr (fun t ht hW => ⟨⟨(a_letters, a_letters_bytes, a_stack), rfl, trivial, kb_h hP ht, kb_D hD rfl⟩, hS.F ht⟩) hS.2.2 dX5_init_25
