set_option maxHeartbeats 4000000 in
set_option maxRecDepth 100000 in
theorem c_X10_partMany (l : Launch) (dC : Nat → ClassId) (dI : Nat → Nat → Nat) (cI cJ cZ cQ : ClassId) (t sz : Nat) (a_th : Nat) (a_page : Nat) (a_question : Nat) (a_stack : Nat) (a_yesOf : Nat) (a_noOf : Nat) (a_one : Nat) (q_text : Value) (q_book : Value) (q_bookSeed : Value) (q_kept : Value) (q_isKept : Value) (q_toldSimple : Value) (q_toldDay : Value) (q_toldYes : Value) (q_factOf : Value) (q_two : Value) (q_three : Value) (v_thrown : Int32) (v_textSize : Int32) (v_place : Int32) (v_questionSize : Int32) (v_facts : Int32) (v_isSo : Int32) (v_common : Int32) (v_readFacts : Int32) (v_readSo : Int32) (v_readCommon : Int32) (v_readDay : Int32) (v_seed : Int64) (v_acts : Int32) (v_told : Int32) (v_page : (Nat → Int32)) (v_question : (Nat → Int32)) (v_stack : (Nat → Int32)) (v_yesOf : (Nat → Int32)) (v_noOf : (Nat → Int32)) (v_one : (Nat → Int32)) (p_1 : Int32) (p_2 : Int32) (o : Int32 × (Nat → Int32) × (Nat → Int32)) (hm : m_X10_partMany p_1 p_2 v_questionSize v_facts v_page v_question v_stack v_yesOf v_noOf v_one = some o) : Met l yX10_partMany wsX10_partMany { frames := 5, cells := 0, slots := 0, locals := 132 } (va_Pc [.ref a_th, .int p_1, .int p_2] (cP (dC, dI) (kT cI cJ cZ cQ) t sz [oX10 a_th (.int v_thrown) q_text (.int v_textSize) (.int v_place) (.ref a_question) (.int v_questionSize) (.int v_facts) (.int v_isSo) (.int v_common) (.int v_readFacts) (.int v_readSo) (.int v_readCommon) (.int v_readDay) (.ref a_page) (.long v_seed) q_book q_bookSeed (.int v_acts) q_kept q_isKept (.int v_told) q_toldSimple q_toldDay q_toldYes (.ref a_yesOf) (.ref a_noOf) q_factOf (.ref a_stack) (.ref a_one) q_two q_three, aI cI a_page 12 v_page, aI cI a_question 16 v_question, aI cZ a_stack 17 v_stack, aI cI a_yesOf 931 v_yesOf, aI cI a_noOf 931 v_noOf, aI cI a_one 7 v_one])) (cQi (dC, dI) (va_A [oX10 a_th (.int v_thrown) q_text (.int v_textSize) (.int v_place) (.ref a_question) (.int v_questionSize) (.int v_facts) (.int v_isSo) (.int v_common) (.int v_readFacts) (.int v_readSo) (.int v_readCommon) (.int v_readDay) (.ref a_page) (.long v_seed) q_book q_bookSeed (.int v_acts) q_kept q_isKept (.int v_told) q_toldSimple q_toldDay q_toldYes (.ref a_yesOf) (.ref a_noOf) q_factOf (.ref a_stack) (.ref a_one) q_two q_three, aI cI a_page 12 v_page, aI cI a_question 16 v_question, aI cZ a_stack 17 v_stack, aI cI a_yesOf 931 v_yesOf, aI cI a_noOf 931 v_noOf, aI cI a_one 7 v_one] sz) o.1 [oX10 a_th (.int v_thrown) q_text (.int v_textSize) (.int v_place) (.ref a_question) (.int v_questionSize) (.int v_facts) (.int v_isSo) (.int v_common) (.int v_readFacts) (.int v_readSo) (.int v_readCommon) (.int v_readDay) (.ref a_page) (.long v_seed) q_book q_bookSeed (.int v_acts) q_kept q_isKept (.int v_told) q_toldSimple q_toldDay q_toldYes (.ref a_yesOf) (.ref a_noOf) q_factOf (.ref a_stack) (.ref a_one) q_two q_three, aI cI a_page 12 v_page, aI cI a_question 16 v_question, aI cZ a_stack 17 (o.2.1), aI cI a_yesOf 931 v_yesOf, aI cI a_noOf 931 v_noOf, aI cI a_one 7 (o.2.2)]) 0 0 (va_A [oX10 a_th (.int v_thrown) q_text (.int v_textSize) (.int v_place) (.ref a_question) (.int v_questionSize) (.int v_facts) (.int v_isSo) (.int v_common) (.int v_readFacts) (.int v_readSo) (.int v_readCommon) (.int v_readDay) (.ref a_page) (.long v_seed) q_book q_bookSeed (.int v_acts) q_kept q_isKept (.int v_told) q_toldSimple q_toldDay q_toldYes (.ref a_yesOf) (.ref a_noOf) q_factOf (.ref a_stack) (.ref a_one) q_two q_three, aI cI a_page 12 v_page, aI cI a_question 16 v_question, aI cZ a_stack 17 v_stack, aI cI a_yesOf 931 v_yesOf, aI cI a_noOf 931 v_noOf, aI cI a_one 7 v_one] sz) := by
  refine Met.ofW (cc := cX10_partMany) (maxL := 3) (ret := (some .int)) (by decide) rfl ?_
  intro p e s m args below meth c s₁ B hml hv
  obtain ⟨rfl, hsz, hP, hK, hD0, hG⟩ := hv
  have hx := B.exec
  have hb := B.bytes
  have hr := B.returns
  have hts := atoms_spec (ws := wsX10_partMany) B.pre
  have hown : s.vm.findClass RX10 = some m.cls := findClass_of_methodNamed B.named
  have hlocks := B.notSynchronized
  subst hsz
  have hD := hD0.self (sz := s.heap.size)
  generalize hAe : va_A [oX10 a_th (.int v_thrown) q_text (.int v_textSize) (.int v_place) (.ref a_question) (.int v_questionSize) (.int v_facts) (.int v_isSo) (.int v_common) (.int v_readFacts) (.int v_readSo) (.int v_readCommon) (.int v_readDay) (.ref a_page) (.long v_seed) q_book q_bookSeed (.int v_acts) q_kept q_isKept (.int v_told) q_toldSimple q_toldDay q_toldYes (.ref a_yesOf) (.ref a_noOf) q_factOf (.ref a_stack) (.ref a_one) q_two q_three, aI cI a_page 12 v_page, aI cI a_question 16 v_question, aI cZ a_stack 17 v_stack, aI cI a_yesOf 931 v_yesOf, aI cI a_noOf 931 v_noOf, aI cI a_one 7 v_one] s.heap.size = A at hD hG ⊢
  have hA : ∀ q : Nat, s.heap.size ≤ q → A q := fun q h => by rw [← hAe]; exact Or.inr h
  have hS : va_S A s.heap s.heap [] := va_S.rf
  have hl := lv_entry ([.ref a_th, .int p_1, .int p_2]) (n := 3) (Nat.le_of_ble_eq_true rfl)
  rw [lg_entry_eq]
  generalize (lg_sl ([.ref a_th, .int p_1, .int p_2]) ++ List.replicate (3 - (lg_sl ([.ref a_th, .int p_1, .int p_2])).length) Slot.unset).toArray = ls at hl ⊢
  have hl : lv_has ls 3 [(0, .ref a_th), (1, .int p_1), (2, .int p_2)] := hl
  have iX10 : ∀ w ∈ wsX100, w ∈ wsX10_partMany := fun _ h => List.mem_cons_of_mem _ (List.mem_append_right _ h)
  have f16 := hts (.fieldLink RX10 16 "TrueOnceWeekModel" "page" "[I") (by decide +kernel)
  have f54 := hts (.fieldLink RX10 54 "TrueOnceWeekModel" "one" "[I") (by decide +kernel)
  refine kb_gen (fun Q hQ => ?_)
  unfold m_X10_partMany at hm
  refine lv_aload_n hx hb dX10_partMany_0 rfl (lv_at hl 0 rfl) ?_
  refine lv_aload_n hx hb dX10_partMany_1 rfl (lv_at hl 0 rfl) ?_
  refine va_get (D := (dC, dI)) (ci := 8) (v := .ref a_page) (C := RX10) (T := TX10) (N := 31) hx hb hts iX10 hown hK hP 0 rfl rfl 13 (by decide) f16 (fun _ h9 => h9) rfl dX10_partMany_2 ?_
  refine lv_iload_n hx hb dX10_partMany_5 rfl (lv_at hl 1 rfl) ?_
  refine lv_aload_n hx hb dX10_partMany_6 rfl (lv_at hl 0 rfl) ?_
  refine va_get (D := (dC, dI)) (ci := 8) (v := .ref a_page) (C := RX10) (T := TX10) (N := 31) hx hb hts iX10 hown hK hP 0 rfl rfl 13 (by decide) f16 (fun _ h9 => h9) rfl dX10_partMany_7 ?_
  refine lv_bipush (v := (7 : Int32)) hx hb dX10_partMany_10 (by decide) ?_
  refine va_iald hx hb hK hP 1 0 rfl rfl (inB_s (by decide)) dX10_partMany_12 ?_
  refine lv_iload_n hx hb dX10_partMany_13 rfl (lv_at hl 2 rfl) ?_
  refine lv_iconst (v := (2 : Int32)) hx hb dX10_partMany_14 (by decide) ?_
  obtain ⟨k24, ek24, hm⟩ := nm_s hm
  have J24 : ∀ (x1 : Int32) (H : Heap) (locs : List Loc) (ls : Array Slot), k24 x1 = some o → va_P (dC, dI) vwCl [oX10 a_th (.int v_thrown) q_text (.int v_textSize) (.int v_place) (.ref a_question) (.int v_questionSize) (.int v_facts) (.int v_isSo) (.int v_common) (.int v_readFacts) (.int v_readSo) (.int v_readCommon) (.int v_readDay) (.ref a_page) (.long v_seed) q_book q_bookSeed (.int v_acts) q_kept q_isKept (.int v_told) q_toldSimple q_toldDay q_toldYes (.ref a_yesOf) (.ref a_noOf) q_factOf (.ref a_stack) (.ref a_one) q_two q_three, aI cI a_page 12 v_page, aI cI a_question 16 v_question, aI cZ a_stack 17 v_stack, aI cI a_yesOf 931 v_yesOf, aI cI a_noOf 931 v_noOf, aI cI a_one 7 v_one] H → va_S A s.heap H locs → lv_has ls 3 [(0, .ref a_th)] → W p l e (headSpec wsX10_partMany { frames := 5, cells := 0, slots := 0, locals := 132 }).room s m [.ref a_th, .int p_1, .int p_2].toArray below meth c H locs 0 0 Q (F0 m 24 ls [.int x1, .int (v_page (Int32.toNatClampNeg (7 : Int32))), .int p_1, .ref a_page, .ref a_th]) := by
    intro x1 H locs ls hm hP hS hl
    rw [ek24] at hm
    refine lv_aload_n hx hb dX10_partMany_24 rfl (lv_at hl 0 rfl) ?_
    refine va_get (D := (dC, dI)) (ci := 8) (v := .ref a_one) (C := RX10) (T := TX10) (N := 31) hx hb hts iX10 hown hK hP 0 rfl rfl 28 (by decide) f54 (fun _ h9 => h9) rfl dX10_partMany_25 ?_
    obtain ⟨w2, w3, ho4, hm⟩ := bd2_s hm
    refine kb_callv (va_runV (As := [.ref a_page, .int p_1, .int (v_page (Int32.toNatClampNeg (7 : Int32))), .int x1, .ref a_one]) (rest := []) ⟨hx, hb, hml, hown, hts⟩ (c_X10_part l dC dI cI cJ cZ cQ t H.size a_th a_page a_question a_stack a_yesOf a_noOf a_one 12 7 q_text (.ref a_page) q_book q_bookSeed q_kept q_isKept q_toldSimple q_toldDay q_toldYes q_factOf (.ref a_one) q_two q_three v_thrown v_textSize v_place v_questionSize v_facts v_isSo v_common v_readFacts v_readSo v_readCommon v_readDay v_seed v_acts v_told v_page v_question v_stack v_yesOf v_noOf v_one p_1 (v_page (Int32.toNatClampNeg (7 : Int32))) x1 (w2, w3) ho4) (cwV 5 hts gX10_partMany_X10_part rfl rfl rfl (by decide +kernel) ⟨(Nat.le_of_ble_eq_true rfl), (Nat.le_of_ble_eq_true rfl)⟩) ⟨(kb_pre hK hG hP (kb_D hD rfl) hS hA [0, 1, 2, 3, 4, 5, 6] rfl (by decide)).1, (va_recv hK hP (ci := 8) (q0 := 0) rfl rfl), (kb_pre hK hG hP (kb_D hD rfl) hS hA [0, 1, 2, 3, 4, 5, 6] rfl (by decide)).2⟩ rfl rfl hl.1 rfl (lv_room (Nat.le_of_ble_eq_true rfl)) dX10_partMany_28 ⟨Nat.zero_le _, Nat.zero_le _⟩) hP (kb_D hD rfl) hS hA [0, 1, 2, 3, 4, 5, 6] rfl [(true, 0), (true, 1), (true, 2), (true, 3), (true, 4), (true, 5), (true, 6)] (w2 := [oX10 a_th (.int v_thrown) q_text (.int v_textSize) (.int v_place) (.ref a_question) (.int v_questionSize) (.int v_facts) (.int v_isSo) (.int v_common) (.int v_readFacts) (.int v_readSo) (.int v_readCommon) (.int v_readDay) (.ref a_page) (.long v_seed) q_book q_bookSeed (.int v_acts) q_kept q_isKept (.int v_told) q_toldSimple q_toldDay q_toldYes (.ref a_yesOf) (.ref a_noOf) q_factOf (.ref a_stack) (.ref a_one) q_two q_three, aI cI a_page 12 v_page, aI cI a_question 16 v_question, aI cZ a_stack 17 w2, aI cI a_yesOf 931 v_yesOf, aI cI a_noOf 931 v_noOf, aI cI a_one 7 w3]) rfl (by decide) (fun H locs hP hS => ?_)
    refine lv_aload_n hx hb dX10_partMany_31 rfl (lv_at hl 0 rfl) ?_
    refine va_get (D := (dC, dI)) (ci := 8) (v := .ref a_one) (C := RX10) (T := TX10) (N := 31) hx hb hts iX10 hown hK hP 0 rfl rfl 28 (by decide) f54 (fun _ h9 => h9) rfl dX10_partMany_32 ?_
    obtain ⟨r5, ho6, hm⟩ := bd1_s hm
    refine kb_calli (Rv := r5) (va_runS (As := [.ref a_one]) (rest := []) ⟨hx, hb, hml, hown, hts⟩ (c_X10_knownMany l dC dI cI cJ cZ cQ t H.size a_one 7 w3 (r5) ho6) (va_cwS 1 hts gX10_partMany_X10_knownMany rfl rfl rfl (by decide +kernel) ⟨(Nat.le_of_ble_eq_true rfl), (Nat.le_of_ble_eq_true rfl)⟩) (kb_pre hK hG hP (kb_D hD rfl) hS hA [6] rfl (by decide)) rfl rfl hl.1 rfl (lv_room (Nat.le_of_ble_eq_true rfl)) dX10_partMany_35 ⟨Nat.zero_le _, Nat.zero_le _⟩) hP (kb_D hD rfl) hS hA [6] rfl [(false, 0), (false, 1), (false, 2), (false, 3), (false, 4), (false, 5), (true, 0)] (w2 := [oX10 a_th (.int v_thrown) q_text (.int v_textSize) (.int v_place) (.ref a_question) (.int v_questionSize) (.int v_facts) (.int v_isSo) (.int v_common) (.int v_readFacts) (.int v_readSo) (.int v_readCommon) (.int v_readDay) (.ref a_page) (.long v_seed) q_book q_bookSeed (.int v_acts) q_kept q_isKept (.int v_told) q_toldSimple q_toldDay q_toldYes (.ref a_yesOf) (.ref a_noOf) q_factOf (.ref a_stack) (.ref a_one) q_two q_three, aI cI a_page 12 v_page, aI cI a_question 16 v_question, aI cZ a_stack 17 w2, aI cI a_yesOf 931 v_yesOf, aI cI a_noOf 931 v_noOf, aI cI a_one 7 w3]) rfl (by decide) (fun H locs hP hS => ?_)
    obtain rfl := Option.some.inj hm
    subst hQ
    exact W.iret hx hb hr (fun t ht hW => ⟨⟨_, (), rfl, rfl, kb_h hP ht⟩, hS.F ht⟩) hS.2.2 dX10_partMany_38
  refine lv_icmp_ne (tgt := 23) hx hb dX10_partMany_15 (by decide) (fun c7 => ?_) (fun c7 => ?_)
  · replace hm := ite_f c7 hm
    refine lv_iload_n hx hb dX10_partMany_23 rfl (lv_at hl 2 rfl) ?_
    exact J24 p_2 _ _ _ hm hP hS (lv_sub hl [0] rfl)
  · replace hm := ite_t c7 hm
    refine lv_bipush (v := (-9 : Int32)) hx hb dX10_partMany_18 (by decide) ?_
    refine lv_goto (tgt := 24) hx hb dX10_partMany_20 (by decide) ?_
    exact J24 (-9 : Int32) _ _ _ hm hP hS (lv_sub hl [0] rfl)
set_option maxHeartbeats 4000000 in
set_option maxRecDepth 100000 in
theorem c_X10_parts (l : Launch) (dC : Nat → ClassId) (dI : Nat → Nat → Nat) (cI cJ cZ cQ : ClassId) (t sz : Nat) (a_th : Nat) (a_question : Nat) (a_page : Nat) (a_stack : Nat) (a_yesOf : Nat) (a_noOf : Nat) (a_one : Nat) (q_text : Value) (q_book : Value) (q_bookSeed : Value) (q_kept : Value) (q_isKept : Value) (q_toldSimple : Value) (q_toldDay : Value) (q_toldYes : Value) (q_factOf : Value) (q_two : Value) (q_three : Value) (v_thrown : Int32) (v_textSize : Int32) (v_place : Int32) (v_questionSize : Int32) (v_facts : Int32) (v_isSo : Int32) (v_common : Int32) (v_readFacts : Int32) (v_readSo : Int32) (v_readCommon : Int32) (v_readDay : Int32) (v_seed : Int64) (v_acts : Int32) (v_told : Int32) (v_question : (Nat → Int32)) (v_page : (Nat → Int32)) (v_stack : (Nat → Int32)) (v_yesOf : (Nat → Int32)) (v_noOf : (Nat → Int32)) (v_one : (Nat → Int32)) (p_1 : Int32) (o : Int32 × Int32 × (Nat → Int32) × (Nat → Int32)) (hm : m_X10_parts p_1 v_thrown v_questionSize v_facts v_question v_page v_stack v_yesOf v_noOf v_one = some o) : Met l yX10_parts wsX10_parts { frames := 6, cells := 0, slots := 0, locals := 154 } (va_Pc [.ref a_th, .int p_1] (cP (dC, dI) (kT cI cJ cZ cQ) t sz [oX10 a_th (.int v_thrown) q_text (.int v_textSize) (.int v_place) (.ref a_question) (.int v_questionSize) (.int v_facts) (.int v_isSo) (.int v_common) (.int v_readFacts) (.int v_readSo) (.int v_readCommon) (.int v_readDay) (.ref a_page) (.long v_seed) q_book q_bookSeed (.int v_acts) q_kept q_isKept (.int v_told) q_toldSimple q_toldDay q_toldYes (.ref a_yesOf) (.ref a_noOf) q_factOf (.ref a_stack) (.ref a_one) q_two q_three, aI cI a_question 16 v_question, aI cI a_page 12 v_page, aI cZ a_stack 17 v_stack, aI cI a_yesOf 931 v_yesOf, aI cI a_noOf 931 v_noOf, aI cI a_one 7 v_one])) (cQi (dC, dI) (va_A [oX10 a_th (.int v_thrown) q_text (.int v_textSize) (.int v_place) (.ref a_question) (.int v_questionSize) (.int v_facts) (.int v_isSo) (.int v_common) (.int v_readFacts) (.int v_readSo) (.int v_readCommon) (.int v_readDay) (.ref a_page) (.long v_seed) q_book q_bookSeed (.int v_acts) q_kept q_isKept (.int v_told) q_toldSimple q_toldDay q_toldYes (.ref a_yesOf) (.ref a_noOf) q_factOf (.ref a_stack) (.ref a_one) q_two q_three, aI cI a_question 16 v_question, aI cI a_page 12 v_page, aI cZ a_stack 17 v_stack, aI cI a_yesOf 931 v_yesOf, aI cI a_noOf 931 v_noOf, aI cI a_one 7 v_one] sz) o.1 [oX10 a_th (.int (o.2.1)) q_text (.int v_textSize) (.int v_place) (.ref a_question) (.int v_questionSize) (.int v_facts) (.int v_isSo) (.int v_common) (.int v_readFacts) (.int v_readSo) (.int v_readCommon) (.int v_readDay) (.ref a_page) (.long v_seed) q_book q_bookSeed (.int v_acts) q_kept q_isKept (.int v_told) q_toldSimple q_toldDay q_toldYes (.ref a_yesOf) (.ref a_noOf) q_factOf (.ref a_stack) (.ref a_one) q_two q_three, aI cI a_question 16 v_question, aI cI a_page 12 v_page, aI cZ a_stack 17 (o.2.2.1), aI cI a_yesOf 931 v_yesOf, aI cI a_noOf 931 v_noOf, aI cI a_one 7 (o.2.2.2)]) 0 0 (va_A [oX10 a_th (.int v_thrown) q_text (.int v_textSize) (.int v_place) (.ref a_question) (.int v_questionSize) (.int v_facts) (.int v_isSo) (.int v_common) (.int v_readFacts) (.int v_readSo) (.int v_readCommon) (.int v_readDay) (.ref a_page) (.long v_seed) q_book q_bookSeed (.int v_acts) q_kept q_isKept (.int v_told) q_toldSimple q_toldDay q_toldYes (.ref a_yesOf) (.ref a_noOf) q_factOf (.ref a_stack) (.ref a_one) q_two q_three, aI cI a_question 16 v_question, aI cI a_page 12 v_page, aI cZ a_stack 17 v_stack, aI cI a_yesOf 931 v_yesOf, aI cI a_noOf 931 v_noOf, aI cI a_one 7 v_one] sz) := by
  refine Met.ofW (cc := cX10_parts) (maxL := 2) (ret := (some .int)) (by decide) rfl ?_
  intro p e s m args below meth c s₁ B hml hv
  obtain ⟨rfl, hsz, hP, hK, hD0, hG⟩ := hv
  have hx := B.exec
  have hb := B.bytes
  have hr := B.returns
  have hts := atoms_spec (ws := wsX10_parts) B.pre
  have hown : s.vm.findClass RX10 = some m.cls := findClass_of_methodNamed B.named
  have hlocks := B.notSynchronized
  subst hsz
  have hD := hD0.self (sz := s.heap.size)
  generalize hAe : va_A [oX10 a_th (.int v_thrown) q_text (.int v_textSize) (.int v_place) (.ref a_question) (.int v_questionSize) (.int v_facts) (.int v_isSo) (.int v_common) (.int v_readFacts) (.int v_readSo) (.int v_readCommon) (.int v_readDay) (.ref a_page) (.long v_seed) q_book q_bookSeed (.int v_acts) q_kept q_isKept (.int v_told) q_toldSimple q_toldDay q_toldYes (.ref a_yesOf) (.ref a_noOf) q_factOf (.ref a_stack) (.ref a_one) q_two q_three, aI cI a_question 16 v_question, aI cI a_page 12 v_page, aI cZ a_stack 17 v_stack, aI cI a_yesOf 931 v_yesOf, aI cI a_noOf 931 v_noOf, aI cI a_one 7 v_one] s.heap.size = A at hD hG ⊢
  have hA : ∀ q : Nat, s.heap.size ≤ q → A q := fun q h => by rw [← hAe]; exact Or.inr h
  have hS : va_S A s.heap s.heap [] := va_S.rf
  have hl := lv_entry ([.ref a_th, .int p_1]) (n := 2) (Nat.le_of_ble_eq_true rfl)
  rw [lg_entry_eq]
  generalize (lg_sl ([.ref a_th, .int p_1]) ++ List.replicate (2 - (lg_sl ([.ref a_th, .int p_1])).length) Slot.unset).toArray = ls at hl ⊢
  have hl : lv_has ls 2 [(0, .ref a_th), (1, .int p_1)] := hl
  have iX10 : ∀ w ∈ wsX100, w ∈ wsX10_parts := fun _ h => List.mem_cons_of_mem _ (List.mem_append_right _ h)
  have f66 := hts (.fieldLink RX10 66 "TrueOnceWeekModel" "thrown" "I") (by decide +kernel)
  have cl188 := hts (.constantLong RX10 188 (2 : Int64)) (by decide +kernel)
  refine kb_gen (fun Q hQ => ?_)
  unfold m_X10_parts at hm
  refine lv_aload_n hx hb dX10_parts_0 rfl (lv_at hl 0 rfl) ?_
  refine lv_iconst (v := (0 : Int32)) hx hb dX10_parts_1 (by decide) ?_
  refine va_put (D := (dC, dI)) (ci := 8) (v := .int (0 : Int32)) (ty := .int) (C := RX10) (T := TX10) (N := 31) hx hb hts iX10 tyX10 tyX10_ok nmX10 hown hK hP (kb_D hD rfl) hS 0 rfl rfl 0 (by decide) f66 (fun _ h9 => h9) rfl (by decide +kernel) rfl rfl (Nat.le_of_ble_eq_true rfl) dX10_parts_2 (fun H locs hP _ hS => ?_)
  have hP : va_P (dC, dI) vwCl [oX10 a_th (.int (0 : Int32)) q_text (.int v_textSize) (.int v_place) (.ref a_question) (.int v_questionSize) (.int v_facts) (.int v_isSo) (.int v_common) (.int v_readFacts) (.int v_readSo) (.int v_readCommon) (.int v_readDay) (.ref a_page) (.long v_seed) q_book q_bookSeed (.int v_acts) q_kept q_isKept (.int v_told) q_toldSimple q_toldDay q_toldYes (.ref a_yesOf) (.ref a_noOf) q_factOf (.ref a_stack) (.ref a_one) q_two q_three, aI cI a_question 16 v_question, aI cI a_page 12 v_page, aI cZ a_stack 17 v_stack, aI cI a_yesOf 931 v_yesOf, aI cI a_noOf 931 v_noOf, aI cI a_one 7 v_one] H := hP
  refine lv_iload_n hx hb dX10_parts_5 rfl (lv_at hl 1 rfl) ?_
  refine lv_i2l (v := (Int32.toInt64 p_1)) hx hb dX10_parts_6 rfl ?_
  refine lv_lconst (v := (0 : Int64)) hx hb dX10_parts_7 (by decide) ?_
  refine lv_ldc2 (v := (2 : Int64)) hx hb hown cl188 dX10_parts_8 ?_
  obtain ⟨r1, ho2, hm⟩ := bd1_s hm
  refine kb_calli (Rv := r1) (va_runS (As := [.long (Int32.toInt64 p_1), .long (0 : Int64), .long (2 : Int64)]) (rest := []) ⟨hx, hb, hml, hown, hts⟩ (c_X10_in l dC dI cI cJ cZ cQ t H.size (Int32.toInt64 p_1) (0 : Int64) (2 : Int64) (r1) ho2) (va_cwS 3 hts gX10_parts_X10_in rfl rfl rfl (by decide +kernel) ⟨(Nat.le_of_ble_eq_true rfl), (Nat.le_of_ble_eq_true rfl)⟩) (kb_pre hK hG hP (kb_D hD rfl) hS hA [] rfl (by decide)) rfl rfl hl.1 rfl (lv_room (Nat.le_of_ble_eq_true rfl)) dX10_parts_11 ⟨Nat.zero_le _, Nat.zero_le _⟩) hP (kb_D hD rfl) hS hA [] rfl [(false, 0), (false, 1), (false, 2), (false, 3), (false, 4), (false, 5), (false, 6)] (w2 := [oX10 a_th (.int (0 : Int32)) q_text (.int v_textSize) (.int v_place) (.ref a_question) (.int v_questionSize) (.int v_facts) (.int v_isSo) (.int v_common) (.int v_readFacts) (.int v_readSo) (.int v_readCommon) (.int v_readDay) (.ref a_page) (.long v_seed) q_book q_bookSeed (.int v_acts) q_kept q_isKept (.int v_told) q_toldSimple q_toldDay q_toldYes (.ref a_yesOf) (.ref a_noOf) q_factOf (.ref a_stack) (.ref a_one) q_two q_three, aI cI a_question 16 v_question, aI cI a_page 12 v_page, aI cZ a_stack 17 v_stack, aI cI a_yesOf 931 v_yesOf, aI cI a_noOf 931 v_noOf, aI cI a_one 7 v_one]) rfl (by decide) (fun H locs hP hS => ?_)
  refine lv_if_ne (tgt := 20) hx hb dX10_parts_14 (by decide) (fun c3 => ?_) (fun c3 => ?_)
  · replace hm := ite_f c3 hm
    refine lv_aload_n hx hb dX10_parts_20 rfl (lv_at hl 0 rfl) ?_
    obtain ⟨r4, ho5, hm⟩ := bd1_s hm
    refine kb_calli (Rv := r4) (va_runV (As := []) (rest := []) ⟨hx, hb, hml, hown, hts⟩ (c_X10_slipOf l dC dI cI cJ cZ cQ t H.size a_th a_question q_text (.ref a_page) q_book q_bookSeed q_kept q_isKept q_toldSimple q_toldDay q_toldYes (.ref a_yesOf) (.ref a_noOf) q_factOf (.ref a_stack) (.ref a_one) q_two q_three (0 : Int32) v_textSize v_place v_questionSize v_facts v_isSo v_common v_readFacts v_readSo v_readCommon v_readDay v_seed v_acts v_told v_question (r4) ho5) (cwV 0 hts gX10_parts_X10_slipOf rfl rfl rfl (by decide +kernel) ⟨(Nat.le_of_ble_eq_true rfl), (Nat.le_of_ble_eq_true rfl)⟩) ⟨(kb_pre hK hG hP (kb_D hD rfl) hS hA [0, 1] rfl (by decide)).1, (va_recv hK hP (ci := 8) (q0 := 0) rfl rfl), (kb_pre hK hG hP (kb_D hD rfl) hS hA [0, 1] rfl (by decide)).2⟩ rfl rfl hl.1 rfl (lv_room (Nat.le_of_ble_eq_true rfl)) dX10_parts_21 ⟨Nat.zero_le _, Nat.zero_le _⟩) hP (kb_D hD rfl) hS hA [0, 1] rfl [(true, 0), (true, 1), (false, 2), (false, 3), (false, 4), (false, 5), (false, 6)] (w2 := [oX10 a_th (.int (0 : Int32)) q_text (.int v_textSize) (.int v_place) (.ref a_question) (.int v_questionSize) (.int v_facts) (.int v_isSo) (.int v_common) (.int v_readFacts) (.int v_readSo) (.int v_readCommon) (.int v_readDay) (.ref a_page) (.long v_seed) q_book q_bookSeed (.int v_acts) q_kept q_isKept (.int v_told) q_toldSimple q_toldDay q_toldYes (.ref a_yesOf) (.ref a_noOf) q_factOf (.ref a_stack) (.ref a_one) q_two q_three, aI cI a_question 16 v_question, aI cI a_page 12 v_page, aI cZ a_stack 17 v_stack, aI cI a_yesOf 931 v_yesOf, aI cI a_noOf 931 v_noOf, aI cI a_one 7 v_one]) rfl (by decide) (fun H locs hP hS => ?_)
    refine lv_bipush (v := (-9 : Int32)) hx hb dX10_parts_24 (by decide) ?_
    refine lv_icmp_eq (tgt := 34) hx hb dX10_parts_26 (by decide) (fun c6 => ?_) (fun c6 => ?_)
    · replace hm := ite_t c6 hm
      refine lv_aload_n hx hb dX10_parts_34 rfl (lv_at hl 0 rfl) ?_
      refine lv_bipush (v := (-9 : Int32)) hx hb dX10_parts_35 (by decide) ?_
      refine lv_iload_n hx hb dX10_parts_37 rfl (lv_at hl 1 rfl) ?_
      obtain ⟨r7, w8, w9, ho10, hm⟩ := bd3_s hm
      refine kb_calli (Rv := r7) (va_runV (As := [.int (-9 : Int32), .int p_1]) (rest := []) ⟨hx, hb, hml, hown, hts⟩ (c_X10_partMany l dC dI cI cJ cZ cQ t H.size a_th a_page a_question a_stack a_yesOf a_noOf a_one q_text q_book q_bookSeed q_kept q_isKept q_toldSimple q_toldDay q_toldYes q_factOf q_two q_three (0 : Int32) v_textSize v_place v_questionSize v_facts v_isSo v_common v_readFacts v_readSo v_readCommon v_readDay v_seed v_acts v_told v_page v_question v_stack v_yesOf v_noOf v_one (-9 : Int32) p_1 (r7, w8, w9) ho10) (cwV 2 hts gX10_parts_X10_partMany rfl rfl rfl (by decide +kernel) ⟨(Nat.le_of_ble_eq_true rfl), (Nat.le_of_ble_eq_true rfl)⟩) ⟨(kb_pre hK hG hP (kb_D hD rfl) hS hA [0, 2, 1, 3, 4, 5, 6] rfl (by decide)).1, (va_recv hK hP (ci := 8) (q0 := 0) rfl rfl), (kb_pre hK hG hP (kb_D hD rfl) hS hA [0, 2, 1, 3, 4, 5, 6] rfl (by decide)).2⟩ rfl rfl hl.1 rfl (lv_room (Nat.le_of_ble_eq_true rfl)) dX10_parts_38 ⟨Nat.zero_le _, Nat.zero_le _⟩) hP (kb_D hD rfl) hS hA [0, 2, 1, 3, 4, 5, 6] rfl [(true, 0), (true, 2), (true, 1), (true, 3), (true, 4), (true, 5), (true, 6)] (w2 := [oX10 a_th (.int (0 : Int32)) q_text (.int v_textSize) (.int v_place) (.ref a_question) (.int v_questionSize) (.int v_facts) (.int v_isSo) (.int v_common) (.int v_readFacts) (.int v_readSo) (.int v_readCommon) (.int v_readDay) (.ref a_page) (.long v_seed) q_book q_bookSeed (.int v_acts) q_kept q_isKept (.int v_told) q_toldSimple q_toldDay q_toldYes (.ref a_yesOf) (.ref a_noOf) q_factOf (.ref a_stack) (.ref a_one) q_two q_three, aI cI a_question 16 v_question, aI cI a_page 12 v_page, aI cZ a_stack 17 w8, aI cI a_yesOf 931 v_yesOf, aI cI a_noOf 931 v_noOf, aI cI a_one 7 w9]) rfl (by decide) (fun H locs hP hS => ?_)
      obtain rfl := Option.some.inj hm
      subst hQ
      exact W.iret hx hb hr (fun t ht hW => ⟨⟨_, (), rfl, rfl, kb_h hP ht⟩, hS.F ht⟩) hS.2.2 dX10_parts_41
    · replace hm := ite_f c6 hm
      refine lv_bipush (v := (-3 : Int32)) hx hb dX10_parts_29 (by decide) ?_
      refine lv_goto (tgt := 41) hx hb dX10_parts_31 (by decide) ?_
      obtain rfl := Option.some.inj hm
      subst hQ
      exact W.iret hx hb hr (fun t ht hW => ⟨⟨_, (), rfl, rfl, kb_h hP ht⟩, hS.F ht⟩) hS.2.2 dX10_parts_41
  · replace hm := ite_t c3 hm
    refine lv_bipush (v := (-2 : Int32)) hx hb dX10_parts_17 (by decide) ?_
    obtain rfl := Option.some.inj hm
    subst hQ
    exact W.iret hx hb hr (fun t ht hW => ⟨⟨_, (), rfl, rfl, kb_h hP ht⟩, hS.F ht⟩) hS.2.2 dX10_parts_19
set_option maxHeartbeats 4000000 in
set_option maxRecDepth 100000 in
theorem c_X10_noSimple (l : Launch) (dC : Nat → ClassId) (dI : Nat → Nat → Nat) (cI cJ cZ cQ : ClassId) (t sz : Nat) (a_th : Nat) (q_text : Value) (q_question : Value) (q_page : Value) (q_book : Value) (q_bookSeed : Value) (q_kept : Value) (q_isKept : Value) (q_toldSimple : Value) (q_toldDay : Value) (q_toldYes : Value) (q_yesOf : Value) (q_noOf : Value) (q_factOf : Value) (q_stack : Value) (q_one : Value) (q_two : Value) (q_three : Value) (v_thrown : Int32) (v_textSize : Int32) (v_place : Int32) (v_questionSize : Int32) (v_facts : Int32) (v_isSo : Int32) (v_common : Int32) (v_readFacts : Int32) (v_readSo : Int32) (v_readCommon : Int32) (v_readDay : Int32) (v_seed : Int64) (v_acts : Int32) (v_told : Int32) (p_1 : Int32) (o : Int32) (hm : m_X10_noSimple p_1 v_facts = some o) : Met l yX10_noSimple wsX10_noSimple { frames := 1, cells := 0, slots := 0, locals := 25 } (va_Pc [.ref a_th, .int p_1] (cP (dC, dI) (kT cI cJ cZ cQ) t sz [oX10 a_th (.int v_thrown) q_text (.int v_textSize) (.int v_place) q_question (.int v_questionSize) (.int v_facts) (.int v_isSo) (.int v_common) (.int v_readFacts) (.int v_readSo) (.int v_readCommon) (.int v_readDay) q_page (.long v_seed) q_book q_bookSeed (.int v_acts) q_kept q_isKept (.int v_told) q_toldSimple q_toldDay q_toldYes q_yesOf q_noOf q_factOf q_stack q_one q_two q_three])) (cQi (dC, dI) (va_A [oX10 a_th (.int v_thrown) q_text (.int v_textSize) (.int v_place) q_question (.int v_questionSize) (.int v_facts) (.int v_isSo) (.int v_common) (.int v_readFacts) (.int v_readSo) (.int v_readCommon) (.int v_readDay) q_page (.long v_seed) q_book q_bookSeed (.int v_acts) q_kept q_isKept (.int v_told) q_toldSimple q_toldDay q_toldYes q_yesOf q_noOf q_factOf q_stack q_one q_two q_three] sz) o [oX10 a_th (.int v_thrown) q_text (.int v_textSize) (.int v_place) q_question (.int v_questionSize) (.int v_facts) (.int v_isSo) (.int v_common) (.int v_readFacts) (.int v_readSo) (.int v_readCommon) (.int v_readDay) q_page (.long v_seed) q_book q_bookSeed (.int v_acts) q_kept q_isKept (.int v_told) q_toldSimple q_toldDay q_toldYes q_yesOf q_noOf q_factOf q_stack q_one q_two q_three]) 0 0 (va_A [oX10 a_th (.int v_thrown) q_text (.int v_textSize) (.int v_place) q_question (.int v_questionSize) (.int v_facts) (.int v_isSo) (.int v_common) (.int v_readFacts) (.int v_readSo) (.int v_readCommon) (.int v_readDay) q_page (.long v_seed) q_book q_bookSeed (.int v_acts) q_kept q_isKept (.int v_told) q_toldSimple q_toldDay q_toldYes q_yesOf q_noOf q_factOf q_stack q_one q_two q_three] sz) := by
  refine Met.ofW (cc := cX10_noSimple) (maxL := 2) (ret := (some .boolean)) (by decide) rfl ?_
  intro p e s m args below meth c s₁ B hml hv
  obtain ⟨rfl, hsz, hP, hK, hD0, hG⟩ := hv
  have hx := B.exec
  have hb := B.bytes
  have hr := B.returns
  have hts := atoms_spec (ws := wsX10_noSimple) B.pre
  have hown : s.vm.findClass RX10 = some m.cls := findClass_of_methodNamed B.named
  have hlocks := B.notSynchronized
  subst hsz
  have hD := hD0.self (sz := s.heap.size)
  generalize hAe : va_A [oX10 a_th (.int v_thrown) q_text (.int v_textSize) (.int v_place) q_question (.int v_questionSize) (.int v_facts) (.int v_isSo) (.int v_common) (.int v_readFacts) (.int v_readSo) (.int v_readCommon) (.int v_readDay) q_page (.long v_seed) q_book q_bookSeed (.int v_acts) q_kept q_isKept (.int v_told) q_toldSimple q_toldDay q_toldYes q_yesOf q_noOf q_factOf q_stack q_one q_two q_three] s.heap.size = A at hD hG ⊢
  have hA : ∀ q : Nat, s.heap.size ≤ q → A q := fun q h => by rw [← hAe]; exact Or.inr h
  have hS : va_S A s.heap s.heap [] := va_S.rf
  have hl := lv_entry ([.ref a_th, .int p_1]) (n := 2) (Nat.le_of_ble_eq_true rfl)
  rw [lg_entry_eq]
  generalize (lg_sl ([.ref a_th, .int p_1]) ++ List.replicate (2 - (lg_sl ([.ref a_th, .int p_1])).length) Slot.unset).toArray = ls at hl ⊢
  have hl : lv_has ls 2 [(0, .ref a_th), (1, .int p_1)] := hl
  have iX10 : ∀ w ∈ wsX100, w ∈ wsX10_noSimple := fun _ h => List.mem_cons_of_mem _ (List.mem_append_right _ h)
  have cl162 := hts (.constantLong RX10 162 (18 : Int64)) (by decide +kernel)
  have cl164 := hts (.constantLong RX10 164 (13 : Int64)) (by decide +kernel)
  have cl166 := hts (.constantLong RX10 166 (17 : Int64)) (by decide +kernel)
  have f102 := hts (.fieldLink RX10 102 "TrueOnceWeekModel" "facts" "I") (by decide +kernel)
  refine kb_gen (fun Q hQ => ?_)
  unfold m_X10_noSimple at hm
  refine lv_iload_n hx hb dX10_noSimple_0 rfl (lv_at hl 1 rfl) ?_
  refine lv_i2l (v := (Int32.toInt64 p_1)) hx hb dX10_noSimple_1 rfl ?_
  refine lv_lconst (v := (0 : Int64)) hx hb dX10_noSimple_2 (by decide) ?_
  refine lv_ldc2 (v := (18 : Int64)) hx hb hown cl162 dX10_noSimple_3 ?_
  obtain ⟨r1, ho2, hm⟩ := bd1_s hm
  refine kb_calli (Rv := r1) (va_runS (As := [.long (Int32.toInt64 p_1), .long (0 : Int64), .long (18 : Int64)]) (rest := []) ⟨hx, hb, hml, hown, hts⟩ (c_X10_in l dC dI cI cJ cZ cQ t s.heap.size (Int32.toInt64 p_1) (0 : Int64) (18 : Int64) (r1) ho2) (va_cwS 3 hts gX10_noSimple_X10_in rfl rfl rfl (by decide +kernel) ⟨(Nat.le_of_ble_eq_true rfl), (Nat.le_of_ble_eq_true rfl)⟩) (kb_pre hK hG hP (kb_D hD rfl) hS hA [] rfl (by decide)) rfl rfl hl.1 rfl (lv_room (Nat.le_of_ble_eq_true rfl)) dX10_noSimple_6 ⟨Nat.zero_le _, Nat.zero_le _⟩) hP (kb_D hD rfl) hS hA [] rfl [(false, 0)] (w2 := [oX10 a_th (.int v_thrown) q_text (.int v_textSize) (.int v_place) q_question (.int v_questionSize) (.int v_facts) (.int v_isSo) (.int v_common) (.int v_readFacts) (.int v_readSo) (.int v_readCommon) (.int v_readDay) q_page (.long v_seed) q_book q_bookSeed (.int v_acts) q_kept q_isKept (.int v_told) q_toldSimple q_toldDay q_toldYes q_yesOf q_noOf q_factOf q_stack q_one q_two q_three]) rfl (by decide) (fun H locs hP hS => ?_)
  obtain ⟨k50, ek50, hm⟩ := nm_s hm
  have J50 : ∀ (H : Heap) (locs : List Loc) (ls : Array Slot), k50 = some o → va_P (dC, dI) vwCl [oX10 a_th (.int v_thrown) q_text (.int v_textSize) (.int v_place) q_question (.int v_questionSize) (.int v_facts) (.int v_isSo) (.int v_common) (.int v_readFacts) (.int v_readSo) (.int v_readCommon) (.int v_readDay) q_page (.long v_seed) q_book q_bookSeed (.int v_acts) q_kept q_isKept (.int v_told) q_toldSimple q_toldDay q_toldYes q_yesOf q_noOf q_factOf q_stack q_one q_two q_three] H → va_S A s.heap H locs → lv_has ls 2 [] → W p l e (headSpec wsX10_noSimple { frames := 1, cells := 0, slots := 0, locals := 25 }).room s m [.ref a_th, .int p_1].toArray below meth c H locs 0 0 Q (F0 m 50 ls []) := by
    intro  H locs ls hm hP hS hl
    rw [ek50] at hm
    refine lv_iconst (v := (1 : Int32)) hx hb dX10_noSimple_50 (by decide) ?_
    refine lv_goto (tgt := 55) hx hb dX10_noSimple_51 (by decide) ?_
    obtain rfl := Option.some.inj hm
    subst hQ
    exact W.zret hx hb hr rfl (fun t ht hW => ⟨⟨_, (), rfl, rfl, kb_h hP ht⟩, hS.F ht⟩) hS.2.2 dX10_noSimple_55
  refine lv_if_eq (tgt := 50) hx hb dX10_noSimple_9 (by decide) (fun c3 => ?_) (fun c3 => ?_)
  · replace hm := ite_t c3 hm
    exact J50  _ _ _ hm hP hS (lv_sub hl [] rfl)
  · replace hm := ite_f c3 hm
    refine lv_iload_n hx hb dX10_noSimple_12 rfl (lv_at hl 1 rfl) ?_
    refine lv_iconst (v := (5 : Int32)) hx hb dX10_noSimple_13 (by decide) ?_
    obtain ⟨k25, ek25, hm⟩ := nm_s hm
    have J25 : ∀ (H : Heap) (locs : List Loc) (ls : Array Slot), k25 = some o → va_P (dC, dI) vwCl [oX10 a_th (.int v_thrown) q_text (.int v_textSize) (.int v_place) q_question (.int v_questionSize) (.int v_facts) (.int v_isSo) (.int v_common) (.int v_readFacts) (.int v_readSo) (.int v_readCommon) (.int v_readDay) q_page (.long v_seed) q_book q_bookSeed (.int v_acts) q_kept q_isKept (.int v_told) q_toldSimple q_toldDay q_toldYes q_yesOf q_noOf q_factOf q_stack q_one q_two q_three] H → va_S A s.heap H locs → lv_has ls 2 [(0, .ref a_th), (1, .int p_1)] → W p l e (headSpec wsX10_noSimple { frames := 1, cells := 0, slots := 0, locals := 25 }).room s m [.ref a_th, .int p_1].toArray below meth c H locs 0 0 Q (F0 m 25 ls []) := by
      intro  H locs ls hm hP hS hl
      rw [ek25] at hm
      refine lv_iload_n hx hb dX10_noSimple_25 rfl (lv_at hl 1 rfl) ?_
      refine lv_i2l (v := (Int32.toInt64 p_1)) hx hb dX10_noSimple_26 rfl ?_
      refine lv_ldc2 (v := (13 : Int64)) hx hb hown cl164 dX10_noSimple_27 ?_
      refine lv_ldc2 (v := (17 : Int64)) hx hb hown cl166 dX10_noSimple_30 ?_
      obtain ⟨r4, ho5, hm⟩ := bd1_s hm
      refine kb_calli (Rv := r4) (va_runS (As := [.long (Int32.toInt64 p_1), .long (13 : Int64), .long (17 : Int64)]) (rest := []) ⟨hx, hb, hml, hown, hts⟩ (c_X10_in l dC dI cI cJ cZ cQ t H.size (Int32.toInt64 p_1) (13 : Int64) (17 : Int64) (r4) ho5) (va_cwS 3 hts gX10_noSimple_X10_in rfl rfl rfl (by decide +kernel) ⟨(Nat.le_of_ble_eq_true rfl), (Nat.le_of_ble_eq_true rfl)⟩) (kb_pre hK hG hP (kb_D hD rfl) hS hA [] rfl (by decide)) rfl rfl hl.1 rfl (lv_room (Nat.le_of_ble_eq_true rfl)) dX10_noSimple_33 ⟨Nat.zero_le _, Nat.zero_le _⟩) hP (kb_D hD rfl) hS hA [] rfl [(false, 0)] (w2 := [oX10 a_th (.int v_thrown) q_text (.int v_textSize) (.int v_place) q_question (.int v_questionSize) (.int v_facts) (.int v_isSo) (.int v_common) (.int v_readFacts) (.int v_readSo) (.int v_readCommon) (.int v_readDay) q_page (.long v_seed) q_book q_bookSeed (.int v_acts) q_kept q_isKept (.int v_told) q_toldSimple q_toldDay q_toldYes q_yesOf q_noOf q_factOf q_stack q_one q_two q_three]) rfl (by decide) (fun H locs hP hS => ?_)
      obtain ⟨k54, ek54, hm⟩ := nm_s hm
      have J54 : ∀ (H : Heap) (locs : List Loc) (ls : Array Slot), k54 = some o → va_P (dC, dI) vwCl [oX10 a_th (.int v_thrown) q_text (.int v_textSize) (.int v_place) q_question (.int v_questionSize) (.int v_facts) (.int v_isSo) (.int v_common) (.int v_readFacts) (.int v_readSo) (.int v_readCommon) (.int v_readDay) q_page (.long v_seed) q_book q_bookSeed (.int v_acts) q_kept q_isKept (.int v_told) q_toldSimple q_toldDay q_toldYes q_yesOf q_noOf q_factOf q_stack q_one q_two q_three] H → va_S A s.heap H locs → lv_has ls 2 [] → W p l e (headSpec wsX10_noSimple { frames := 1, cells := 0, slots := 0, locals := 25 }).room s m [.ref a_th, .int p_1].toArray below meth c H locs 0 0 Q (F0 m 54 ls []) := by
        intro  H locs ls hm hP hS hl
        rw [ek54] at hm
        refine lv_iconst (v := (0 : Int32)) hx hb dX10_noSimple_54 (by decide) ?_
        obtain rfl := Option.some.inj hm
        subst hQ
        exact W.zret hx hb hr rfl (fun t ht hW => ⟨⟨_, (), rfl, rfl, kb_h hP ht⟩, hS.F ht⟩) hS.2.2 dX10_noSimple_55
      refine lv_if_eq (tgt := 54) hx hb dX10_noSimple_36 (by decide) (fun c6 => ?_) (fun c6 => ?_)
      · replace hm := ite_t c6 hm
        exact J54  _ _ _ hm hP hS (lv_sub hl [] rfl)
      · replace hm := ite_f c6 hm
        refine lv_iload_n hx hb dX10_noSimple_39 rfl (lv_at hl 1 rfl) ?_
        refine lv_bipush (v := (13 : Int32)) hx hb dX10_noSimple_40 (by decide) ?_
        refine lv_isub hx hb dX10_noSimple_42 ?_
        refine lv_aload_n hx hb dX10_noSimple_43 rfl (lv_at hl 0 rfl) ?_
        refine va_get (D := (dC, dI)) (ci := 8) (v := .int v_facts) (C := RX10) (T := TX10) (N := 31) hx hb hts iX10 hown hK hP 0 rfl rfl 6 (by decide) f102 (fun _ h9 => h9) rfl dX10_noSimple_44 ?_
        refine lv_icmp_lt (tgt := 54) hx hb dX10_noSimple_47 (by decide) (fun c7 => ?_) (fun c7 => ?_)
        · replace hm := ite_t c7 hm
          exact J54  _ _ _ hm hP hS (lv_sub hl [] rfl)
        · replace hm := ite_f c7 hm
          exact J50  _ _ _ hm hP hS (lv_sub hl [] rfl)
    refine lv_icmp_ge (tgt := 25) hx hb dX10_noSimple_14 (by decide) (fun c8 => ?_) (fun c8 => ?_)
    · replace hm := ite_t c8 hm
      exact J25  _ _ _ hm hP hS (lv_sub hl [0, 1] rfl)
    · replace hm := ite_f c8 hm
      refine lv_iload_n hx hb dX10_noSimple_17 rfl (lv_at hl 1 rfl) ?_
      refine lv_aload_n hx hb dX10_noSimple_18 rfl (lv_at hl 0 rfl) ?_
      refine va_get (D := (dC, dI)) (ci := 8) (v := .int v_facts) (C := RX10) (T := TX10) (N := 31) hx hb hts iX10 hown hK hP 0 rfl rfl 6 (by decide) f102 (fun _ h9 => h9) rfl dX10_noSimple_19 ?_
      refine lv_icmp_ge (tgt := 50) hx hb dX10_noSimple_22 (by decide) (fun c9 => ?_) (fun c9 => ?_)
      · replace hm := ite_t c9 hm
        exact J50  _ _ _ hm hP hS (lv_sub hl [] rfl)
      · replace hm := ite_f c9 hm
        exact J25  _ _ _ hm hP hS (lv_sub hl [0, 1] rfl)
set_option maxHeartbeats 4000000 in
set_option maxRecDepth 100000 in
theorem c_X10_simpleParts (l : Launch) (dC : Nat → ClassId) (dI : Nat → Nat → Nat) (cI cJ cZ cQ : ClassId) (t sz : Nat) (a_th : Nat) (a_page : Nat) (a_question : Nat) (a_stack : Nat) (a_yesOf : Nat) (a_noOf : Nat) (a_one : Nat) (q_text : Value) (q_book : Value) (q_bookSeed : Value) (q_kept : Value) (q_isKept : Value) (q_toldSimple : Value) (q_toldDay : Value) (q_toldYes : Value) (q_factOf : Value) (q_two : Value) (q_three : Value) (v_thrown : Int32) (v_textSize : Int32) (v_place : Int32) (v_questionSize : Int32) (v_facts : Int32) (v_isSo : Int32) (v_common : Int32) (v_readFacts : Int32) (v_readSo : Int32) (v_readCommon : Int32) (v_readDay : Int32) (v_seed : Int64) (v_acts : Int32) (v_told : Int32) (v_page : (Nat → Int32)) (v_question : (Nat → Int32)) (v_stack : (Nat → Int32)) (v_yesOf : (Nat → Int32)) (v_noOf : (Nat → Int32)) (v_one : (Nat → Int32)) (p_1 : Int32) (p_2 : Int32) (o : Int32 × Int32 × (Nat → Int32) × (Nat → Int32)) (hm : m_X10_simpleParts p_1 p_2 v_thrown v_questionSize v_facts v_page v_question v_stack v_yesOf v_noOf v_one = some o) : Met l yX10_simpleParts wsX10_simpleParts { frames := 6, cells := 0, slots := 0, locals := 154 } (va_Pc [.ref a_th, .int p_1, .int p_2] (cP (dC, dI) (kT cI cJ cZ cQ) t sz [oX10 a_th (.int v_thrown) q_text (.int v_textSize) (.int v_place) (.ref a_question) (.int v_questionSize) (.int v_facts) (.int v_isSo) (.int v_common) (.int v_readFacts) (.int v_readSo) (.int v_readCommon) (.int v_readDay) (.ref a_page) (.long v_seed) q_book q_bookSeed (.int v_acts) q_kept q_isKept (.int v_told) q_toldSimple q_toldDay q_toldYes (.ref a_yesOf) (.ref a_noOf) q_factOf (.ref a_stack) (.ref a_one) q_two q_three, aI cI a_page 12 v_page, aI cI a_question 16 v_question, aI cZ a_stack 17 v_stack, aI cI a_yesOf 931 v_yesOf, aI cI a_noOf 931 v_noOf, aI cI a_one 7 v_one])) (cQi (dC, dI) (va_A [oX10 a_th (.int v_thrown) q_text (.int v_textSize) (.int v_place) (.ref a_question) (.int v_questionSize) (.int v_facts) (.int v_isSo) (.int v_common) (.int v_readFacts) (.int v_readSo) (.int v_readCommon) (.int v_readDay) (.ref a_page) (.long v_seed) q_book q_bookSeed (.int v_acts) q_kept q_isKept (.int v_told) q_toldSimple q_toldDay q_toldYes (.ref a_yesOf) (.ref a_noOf) q_factOf (.ref a_stack) (.ref a_one) q_two q_three, aI cI a_page 12 v_page, aI cI a_question 16 v_question, aI cZ a_stack 17 v_stack, aI cI a_yesOf 931 v_yesOf, aI cI a_noOf 931 v_noOf, aI cI a_one 7 v_one] sz) o.1 [oX10 a_th (.int (o.2.1)) q_text (.int v_textSize) (.int v_place) (.ref a_question) (.int v_questionSize) (.int v_facts) (.int v_isSo) (.int v_common) (.int v_readFacts) (.int v_readSo) (.int v_readCommon) (.int v_readDay) (.ref a_page) (.long v_seed) q_book q_bookSeed (.int v_acts) q_kept q_isKept (.int v_told) q_toldSimple q_toldDay q_toldYes (.ref a_yesOf) (.ref a_noOf) q_factOf (.ref a_stack) (.ref a_one) q_two q_three, aI cI a_page 12 v_page, aI cI a_question 16 v_question, aI cZ a_stack 17 (o.2.2.1), aI cI a_yesOf 931 v_yesOf, aI cI a_noOf 931 v_noOf, aI cI a_one 7 (o.2.2.2)]) 0 0 (va_A [oX10 a_th (.int v_thrown) q_text (.int v_textSize) (.int v_place) (.ref a_question) (.int v_questionSize) (.int v_facts) (.int v_isSo) (.int v_common) (.int v_readFacts) (.int v_readSo) (.int v_readCommon) (.int v_readDay) (.ref a_page) (.long v_seed) q_book q_bookSeed (.int v_acts) q_kept q_isKept (.int v_told) q_toldSimple q_toldDay q_toldYes (.ref a_yesOf) (.ref a_noOf) q_factOf (.ref a_stack) (.ref a_one) q_two q_three, aI cI a_page 12 v_page, aI cI a_question 16 v_question, aI cZ a_stack 17 v_stack, aI cI a_yesOf 931 v_yesOf, aI cI a_noOf 931 v_noOf, aI cI a_one 7 v_one] sz) := by
  refine Met.ofW (cc := cX10_simpleParts) (maxL := 3) (ret := (some .int)) (by decide) rfl ?_
  intro p e s m args below meth c s₁ B hml hv
  obtain ⟨rfl, hsz, hP, hK, hD0, hG⟩ := hv
  have hx := B.exec
  have hb := B.bytes
  have hr := B.returns
  have hts := atoms_spec (ws := wsX10_simpleParts) B.pre
  have hown : s.vm.findClass RX10 = some m.cls := findClass_of_methodNamed B.named
  have hlocks := B.notSynchronized
  subst hsz
  have hD := hD0.self (sz := s.heap.size)
  generalize hAe : va_A [oX10 a_th (.int v_thrown) q_text (.int v_textSize) (.int v_place) (.ref a_question) (.int v_questionSize) (.int v_facts) (.int v_isSo) (.int v_common) (.int v_readFacts) (.int v_readSo) (.int v_readCommon) (.int v_readDay) (.ref a_page) (.long v_seed) q_book q_bookSeed (.int v_acts) q_kept q_isKept (.int v_told) q_toldSimple q_toldDay q_toldYes (.ref a_yesOf) (.ref a_noOf) q_factOf (.ref a_stack) (.ref a_one) q_two q_three, aI cI a_page 12 v_page, aI cI a_question 16 v_question, aI cZ a_stack 17 v_stack, aI cI a_yesOf 931 v_yesOf, aI cI a_noOf 931 v_noOf, aI cI a_one 7 v_one] s.heap.size = A at hD hG ⊢
  have hA : ∀ q : Nat, s.heap.size ≤ q → A q := fun q h => by rw [← hAe]; exact Or.inr h
  have hS : va_S A s.heap s.heap [] := va_S.rf
  have hl := lv_entry ([.ref a_th, .int p_1, .int p_2]) (n := 3) (Nat.le_of_ble_eq_true rfl)
  rw [lg_entry_eq]
  generalize (lg_sl ([.ref a_th, .int p_1, .int p_2]) ++ List.replicate (3 - (lg_sl ([.ref a_th, .int p_1, .int p_2])).length) Slot.unset).toArray = ls at hl ⊢
  have hl : lv_has ls 3 [(0, .ref a_th), (1, .int p_1), (2, .int p_2)] := hl
  have iX10 : ∀ w ∈ wsX100, w ∈ wsX10_simpleParts := fun _ h => List.mem_cons_of_mem _ (List.mem_append_right _ h)
  have f66 := hts (.fieldLink RX10 66 "TrueOnceWeekModel" "thrown" "I") (by decide +kernel)
  have cl188 := hts (.constantLong RX10 188 (2 : Int64)) (by decide +kernel)
  refine kb_gen (fun Q hQ => ?_)
  unfold m_X10_simpleParts at hm
  refine lv_aload_n hx hb dX10_simpleParts_0 rfl (lv_at hl 0 rfl) ?_
  refine lv_iconst (v := (0 : Int32)) hx hb dX10_simpleParts_1 (by decide) ?_
  refine va_put (D := (dC, dI)) (ci := 8) (v := .int (0 : Int32)) (ty := .int) (C := RX10) (T := TX10) (N := 31) hx hb hts iX10 tyX10 tyX10_ok nmX10 hown hK hP (kb_D hD rfl) hS 0 rfl rfl 0 (by decide) f66 (fun _ h9 => h9) rfl (by decide +kernel) rfl rfl (Nat.le_of_ble_eq_true rfl) dX10_simpleParts_2 (fun H locs hP _ hS => ?_)
  have hP : va_P (dC, dI) vwCl [oX10 a_th (.int (0 : Int32)) q_text (.int v_textSize) (.int v_place) (.ref a_question) (.int v_questionSize) (.int v_facts) (.int v_isSo) (.int v_common) (.int v_readFacts) (.int v_readSo) (.int v_readCommon) (.int v_readDay) (.ref a_page) (.long v_seed) q_book q_bookSeed (.int v_acts) q_kept q_isKept (.int v_told) q_toldSimple q_toldDay q_toldYes (.ref a_yesOf) (.ref a_noOf) q_factOf (.ref a_stack) (.ref a_one) q_two q_three, aI cI a_page 12 v_page, aI cI a_question 16 v_question, aI cZ a_stack 17 v_stack, aI cI a_yesOf 931 v_yesOf, aI cI a_noOf 931 v_noOf, aI cI a_one 7 v_one] H := hP
  refine lv_aload_n hx hb dX10_simpleParts_5 rfl (lv_at hl 0 rfl) ?_
  refine lv_iload_n hx hb dX10_simpleParts_6 rfl (lv_at hl 1 rfl) ?_
  obtain ⟨r1, ho2, hm⟩ := bd1_s hm
  refine kb_calli (Rv := r1) (va_runV (As := [.int p_1]) (rest := []) ⟨hx, hb, hml, hown, hts⟩ (c_X10_noSimple l dC dI cI cJ cZ cQ t H.size a_th q_text (.ref a_question) (.ref a_page) q_book q_bookSeed q_kept q_isKept q_toldSimple q_toldDay q_toldYes (.ref a_yesOf) (.ref a_noOf) q_factOf (.ref a_stack) (.ref a_one) q_two q_three (0 : Int32) v_textSize v_place v_questionSize v_facts v_isSo v_common v_readFacts v_readSo v_readCommon v_readDay v_seed v_acts v_told p_1 (r1) ho2) (cwV 1 hts gX10_simpleParts_X10_noSimple rfl rfl rfl (by decide +kernel) ⟨(Nat.le_of_ble_eq_true rfl), (Nat.le_of_ble_eq_true rfl)⟩) ⟨(kb_pre hK hG hP (kb_D hD rfl) hS hA [0] rfl (by decide)).1, (va_recv hK hP (ci := 8) (q0 := 0) rfl rfl), (kb_pre hK hG hP (kb_D hD rfl) hS hA [0] rfl (by decide)).2⟩ rfl rfl hl.1 rfl (lv_room (Nat.le_of_ble_eq_true rfl)) dX10_simpleParts_7 ⟨Nat.zero_le _, Nat.zero_le _⟩) hP (kb_D hD rfl) hS hA [0] rfl [(true, 0), (false, 1), (false, 2), (false, 3), (false, 4), (false, 5), (false, 6)] (w2 := [oX10 a_th (.int (0 : Int32)) q_text (.int v_textSize) (.int v_place) (.ref a_question) (.int v_questionSize) (.int v_facts) (.int v_isSo) (.int v_common) (.int v_readFacts) (.int v_readSo) (.int v_readCommon) (.int v_readDay) (.ref a_page) (.long v_seed) q_book q_bookSeed (.int v_acts) q_kept q_isKept (.int v_told) q_toldSimple q_toldDay q_toldYes (.ref a_yesOf) (.ref a_noOf) q_factOf (.ref a_stack) (.ref a_one) q_two q_three, aI cI a_page 12 v_page, aI cI a_question 16 v_question, aI cZ a_stack 17 v_stack, aI cI a_yesOf 931 v_yesOf, aI cI a_noOf 931 v_noOf, aI cI a_one 7 v_one]) rfl (by decide) (fun H locs hP hS => ?_)
  obtain ⟨k25, ek25, hm⟩ := nm_s hm
  have J25 : ∀ (H : Heap) (locs : List Loc) (ls : Array Slot), k25 = some o → va_P (dC, dI) vwCl [oX10 a_th (.int (0 : Int32)) q_text (.int v_textSize) (.int v_place) (.ref a_question) (.int v_questionSize) (.int v_facts) (.int v_isSo) (.int v_common) (.int v_readFacts) (.int v_readSo) (.int v_readCommon) (.int v_readDay) (.ref a_page) (.long v_seed) q_book q_bookSeed (.int v_acts) q_kept q_isKept (.int v_told) q_toldSimple q_toldDay q_toldYes (.ref a_yesOf) (.ref a_noOf) q_factOf (.ref a_stack) (.ref a_one) q_two q_three, aI cI a_page 12 v_page, aI cI a_question 16 v_question, aI cZ a_stack 17 v_stack, aI cI a_yesOf 931 v_yesOf, aI cI a_noOf 931 v_noOf, aI cI a_one 7 v_one] H → va_S A s.heap H locs → lv_has ls 3 [] → W p l e (headSpec wsX10_simpleParts { frames := 6, cells := 0, slots := 0, locals := 154 }).room s m [.ref a_th, .int p_1, .int p_2].toArray below meth c H locs 0 0 Q (F0 m 25 ls []) := by
    intro  H locs ls hm hP hS hl
    rw [ek25] at hm
    refine lv_bipush (v := (-2 : Int32)) hx hb dX10_simpleParts_25 (by decide) ?_
    refine lv_goto (tgt := 36) hx hb dX10_simpleParts_27 (by decide) ?_
    obtain rfl := Option.some.inj hm
    subst hQ
    exact W.iret hx hb hr (fun t ht hW => ⟨⟨_, (), rfl, rfl, kb_h hP ht⟩, hS.F ht⟩) hS.2.2 dX10_simpleParts_36
  refine lv_if_ne (tgt := 25) hx hb dX10_simpleParts_10 (by decide) (fun c3 => ?_) (fun c3 => ?_)
  · replace hm := ite_f c3 hm
    exact J25  _ _ _ hm hP hS (lv_sub hl [] rfl)
  · replace hm := ite_t c3 hm
    refine lv_iload_n hx hb dX10_simpleParts_13 rfl (lv_at hl 2 rfl) ?_
    refine lv_i2l (v := (Int32.toInt64 p_2)) hx hb dX10_simpleParts_14 rfl ?_
    refine lv_lconst (v := (0 : Int64)) hx hb dX10_simpleParts_15 (by decide) ?_
    refine lv_ldc2 (v := (2 : Int64)) hx hb hown cl188 dX10_simpleParts_16 ?_
    obtain ⟨r4, ho5, hm⟩ := bd1_s hm
    refine kb_calli (Rv := r4) (va_runS (As := [.long (Int32.toInt64 p_2), .long (0 : Int64), .long (2 : Int64)]) (rest := []) ⟨hx, hb, hml, hown, hts⟩ (c_X10_in l dC dI cI cJ cZ cQ t H.size (Int32.toInt64 p_2) (0 : Int64) (2 : Int64) (r4) ho5) (va_cwS 3 hts gX10_simpleParts_X10_in rfl rfl rfl (by decide +kernel) ⟨(Nat.le_of_ble_eq_true rfl), (Nat.le_of_ble_eq_true rfl)⟩) (kb_pre hK hG hP (kb_D hD rfl) hS hA [] rfl (by decide)) rfl rfl hl.1 rfl (lv_room (Nat.le_of_ble_eq_true rfl)) dX10_simpleParts_19 ⟨Nat.zero_le _, Nat.zero_le _⟩) hP (kb_D hD rfl) hS hA [] rfl [(false, 0), (false, 1), (false, 2), (false, 3), (false, 4), (false, 5), (false, 6)] (w2 := [oX10 a_th (.int (0 : Int32)) q_text (.int v_textSize) (.int v_place) (.ref a_question) (.int v_questionSize) (.int v_facts) (.int v_isSo) (.int v_common) (.int v_readFacts) (.int v_readSo) (.int v_readCommon) (.int v_readDay) (.ref a_page) (.long v_seed) q_book q_bookSeed (.int v_acts) q_kept q_isKept (.int v_told) q_toldSimple q_toldDay q_toldYes (.ref a_yesOf) (.ref a_noOf) q_factOf (.ref a_stack) (.ref a_one) q_two q_three, aI cI a_page 12 v_page, aI cI a_question 16 v_question, aI cZ a_stack 17 v_stack, aI cI a_yesOf 931 v_yesOf, aI cI a_noOf 931 v_noOf, aI cI a_one 7 v_one]) rfl (by decide) (fun H locs hP hS => ?_)
    refine lv_if_ne (tgt := 30) hx hb dX10_simpleParts_22 (by decide) (fun c6 => ?_) (fun c6 => ?_)
    · replace hm := ite_f c6 hm
      refine lv_aload_n hx hb dX10_simpleParts_30 rfl (lv_at hl 0 rfl) ?_
      refine lv_iload_n hx hb dX10_simpleParts_31 rfl (lv_at hl 1 rfl) ?_
      refine lv_iload_n hx hb dX10_simpleParts_32 rfl (lv_at hl 2 rfl) ?_
      obtain ⟨r7, w8, w9, ho10, hm⟩ := bd3_s hm
      refine kb_calli (Rv := r7) (va_runV (As := [.int p_1, .int p_2]) (rest := []) ⟨hx, hb, hml, hown, hts⟩ (c_X10_partMany l dC dI cI cJ cZ cQ t H.size a_th a_page a_question a_stack a_yesOf a_noOf a_one q_text q_book q_bookSeed q_kept q_isKept q_toldSimple q_toldDay q_toldYes q_factOf q_two q_three (0 : Int32) v_textSize v_place v_questionSize v_facts v_isSo v_common v_readFacts v_readSo v_readCommon v_readDay v_seed v_acts v_told v_page v_question v_stack v_yesOf v_noOf v_one p_1 p_2 (r7, w8, w9) ho10) (cwV 2 hts gX10_simpleParts_X10_partMany rfl rfl rfl (by decide +kernel) ⟨(Nat.le_of_ble_eq_true rfl), (Nat.le_of_ble_eq_true rfl)⟩) ⟨(kb_pre hK hG hP (kb_D hD rfl) hS hA [0, 1, 2, 3, 4, 5, 6] rfl (by decide)).1, (va_recv hK hP (ci := 8) (q0 := 0) rfl rfl), (kb_pre hK hG hP (kb_D hD rfl) hS hA [0, 1, 2, 3, 4, 5, 6] rfl (by decide)).2⟩ rfl rfl hl.1 rfl (lv_room (Nat.le_of_ble_eq_true rfl)) dX10_simpleParts_33 ⟨Nat.zero_le _, Nat.zero_le _⟩) hP (kb_D hD rfl) hS hA [0, 1, 2, 3, 4, 5, 6] rfl [(true, 0), (true, 1), (true, 2), (true, 3), (true, 4), (true, 5), (true, 6)] (w2 := [oX10 a_th (.int (0 : Int32)) q_text (.int v_textSize) (.int v_place) (.ref a_question) (.int v_questionSize) (.int v_facts) (.int v_isSo) (.int v_common) (.int v_readFacts) (.int v_readSo) (.int v_readCommon) (.int v_readDay) (.ref a_page) (.long v_seed) q_book q_bookSeed (.int v_acts) q_kept q_isKept (.int v_told) q_toldSimple q_toldDay q_toldYes (.ref a_yesOf) (.ref a_noOf) q_factOf (.ref a_stack) (.ref a_one) q_two q_three, aI cI a_page 12 v_page, aI cI a_question 16 v_question, aI cZ a_stack 17 w8, aI cI a_yesOf 931 v_yesOf, aI cI a_noOf 931 v_noOf, aI cI a_one 7 w9]) rfl (by decide) (fun H locs hP hS => ?_)
      obtain rfl := Option.some.inj hm
      subst hQ
      exact W.iret hx hb hr (fun t ht hW => ⟨⟨_, (), rfl, rfl, kb_h hP ht⟩, hS.F ht⟩) hS.2.2 dX10_simpleParts_36
    · replace hm := ite_t c6 hm
      exact J25  _ _ _ hm hP hS (lv_sub hl [] rfl)
set_option maxHeartbeats 4000000 in
set_option maxRecDepth 100000 in
theorem c_X10_toAsk (l : Launch) (dC : Nat → ClassId) (dI : Nat → Nat → Nat) (cI cJ cZ cQ : ClassId) (t sz : Nat) (a_th : Nat) (a_page : Nat) (a_question : Nat) (a_stack : Nat) (a_yesOf : Nat) (a_noOf : Nat) (a_one : Nat) (q_text : Value) (q_book : Value) (q_bookSeed : Value) (q_kept : Value) (q_isKept : Value) (q_toldSimple : Value) (q_toldDay : Value) (q_toldYes : Value) (q_factOf : Value) (q_two : Value) (q_three : Value) (v_thrown : Int32) (v_textSize : Int32) (v_place : Int32) (v_questionSize : Int32) (v_facts : Int32) (v_isSo : Int32) (v_common : Int32) (v_readFacts : Int32) (v_readSo : Int32) (v_readCommon : Int32) (v_readDay : Int32) (v_seed : Int64) (v_acts : Int32) (v_told : Int32) (v_page : (Nat → Int32)) (v_question : (Nat → Int32)) (v_stack : (Nat → Int32)) (v_yesOf : (Nat → Int32)) (v_noOf : (Nat → Int32)) (v_one : (Nat → Int32)) (o : Int32 × Int32 × (Nat → Int32) × (Nat → Int32)) (hm : m_X10_toAsk v_thrown v_questionSize v_facts v_page v_question v_stack v_yesOf v_noOf v_one = some o) : Met l yX10_toAsk wsX10_toAsk { frames := 6, cells := 0, slots := 0, locals := 154 } (va_Pc [.ref a_th] (cP (dC, dI) (kT cI cJ cZ cQ) t sz [oX10 a_th (.int v_thrown) q_text (.int v_textSize) (.int v_place) (.ref a_question) (.int v_questionSize) (.int v_facts) (.int v_isSo) (.int v_common) (.int v_readFacts) (.int v_readSo) (.int v_readCommon) (.int v_readDay) (.ref a_page) (.long v_seed) q_book q_bookSeed (.int v_acts) q_kept q_isKept (.int v_told) q_toldSimple q_toldDay q_toldYes (.ref a_yesOf) (.ref a_noOf) q_factOf (.ref a_stack) (.ref a_one) q_two q_three, aI cI a_page 12 v_page, aI cI a_question 16 v_question, aI cZ a_stack 17 v_stack, aI cI a_yesOf 931 v_yesOf, aI cI a_noOf 931 v_noOf, aI cI a_one 7 v_one])) (cQi (dC, dI) (va_A [oX10 a_th (.int v_thrown) q_text (.int v_textSize) (.int v_place) (.ref a_question) (.int v_questionSize) (.int v_facts) (.int v_isSo) (.int v_common) (.int v_readFacts) (.int v_readSo) (.int v_readCommon) (.int v_readDay) (.ref a_page) (.long v_seed) q_book q_bookSeed (.int v_acts) q_kept q_isKept (.int v_told) q_toldSimple q_toldDay q_toldYes (.ref a_yesOf) (.ref a_noOf) q_factOf (.ref a_stack) (.ref a_one) q_two q_three, aI cI a_page 12 v_page, aI cI a_question 16 v_question, aI cZ a_stack 17 v_stack, aI cI a_yesOf 931 v_yesOf, aI cI a_noOf 931 v_noOf, aI cI a_one 7 v_one] sz) o.1 [oX10 a_th (.int (o.2.1)) q_text (.int v_textSize) (.int v_place) (.ref a_question) (.int v_questionSize) (.int v_facts) (.int v_isSo) (.int v_common) (.int v_readFacts) (.int v_readSo) (.int v_readCommon) (.int v_readDay) (.ref a_page) (.long v_seed) q_book q_bookSeed (.int v_acts) q_kept q_isKept (.int v_told) q_toldSimple q_toldDay q_toldYes (.ref a_yesOf) (.ref a_noOf) q_factOf (.ref a_stack) (.ref a_one) q_two q_three, aI cI a_page 12 v_page, aI cI a_question 16 v_question, aI cZ a_stack 17 (o.2.2.1), aI cI a_yesOf 931 v_yesOf, aI cI a_noOf 931 v_noOf, aI cI a_one 7 (o.2.2.2)]) 0 0 (va_A [oX10 a_th (.int v_thrown) q_text (.int v_textSize) (.int v_place) (.ref a_question) (.int v_questionSize) (.int v_facts) (.int v_isSo) (.int v_common) (.int v_readFacts) (.int v_readSo) (.int v_readCommon) (.int v_readDay) (.ref a_page) (.long v_seed) q_book q_bookSeed (.int v_acts) q_kept q_isKept (.int v_told) q_toldSimple q_toldDay q_toldYes (.ref a_yesOf) (.ref a_noOf) q_factOf (.ref a_stack) (.ref a_one) q_two q_three, aI cI a_page 12 v_page, aI cI a_question 16 v_question, aI cZ a_stack 17 v_stack, aI cI a_yesOf 931 v_yesOf, aI cI a_noOf 931 v_noOf, aI cI a_one 7 v_one] sz) := by
  refine Met.ofW (cc := cX10_toAsk) (maxL := 7) (ret := (some .int)) (by decide) rfl ?_
  intro p e s m args below meth c s₁ B hml hv
  obtain ⟨rfl, hsz, hP, hK, hD0, hG⟩ := hv
  have hx := B.exec
  have hb := B.bytes
  have hr := B.returns
  have hts := atoms_spec (ws := wsX10_toAsk) B.pre
  have hown : s.vm.findClass RX10 = some m.cls := findClass_of_methodNamed B.named
  have hlocks := B.notSynchronized
  subst hsz
  have hD := hD0.self (sz := s.heap.size)
  generalize hAe : va_A [oX10 a_th (.int v_thrown) q_text (.int v_textSize) (.int v_place) (.ref a_question) (.int v_questionSize) (.int v_facts) (.int v_isSo) (.int v_common) (.int v_readFacts) (.int v_readSo) (.int v_readCommon) (.int v_readDay) (.ref a_page) (.long v_seed) q_book q_bookSeed (.int v_acts) q_kept q_isKept (.int v_told) q_toldSimple q_toldDay q_toldYes (.ref a_yesOf) (.ref a_noOf) q_factOf (.ref a_stack) (.ref a_one) q_two q_three, aI cI a_page 12 v_page, aI cI a_question 16 v_question, aI cZ a_stack 17 v_stack, aI cI a_yesOf 931 v_yesOf, aI cI a_noOf 931 v_noOf, aI cI a_one 7 v_one] s.heap.size = A at hD hG ⊢
  have hA : ∀ q : Nat, s.heap.size ≤ q → A q := fun q h => by rw [← hAe]; exact Or.inr h
  have hS : va_S A s.heap s.heap [] := va_S.rf
  have hl := lv_entry ([.ref a_th]) (n := 7) (Nat.le_of_ble_eq_true rfl)
  rw [lg_entry_eq]
  generalize (lg_sl ([.ref a_th]) ++ List.replicate (7 - (lg_sl ([.ref a_th])).length) Slot.unset).toArray = ls at hl ⊢
  have hl : lv_has ls 7 [(0, .ref a_th)] := hl
  have iX10 : ∀ w ∈ wsX100, w ∈ wsX10_toAsk := fun _ h => List.mem_cons_of_mem _ (List.mem_append_right _ h)
  have f66 := hts (.fieldLink RX10 66 "TrueOnceWeekModel" "thrown" "I") (by decide +kernel)
  refine kb_gen (fun Q hQ => ?_)
  unfold m_X10_toAsk at hm
  refine lv_aload_n hx hb dX10_toAsk_0 rfl (lv_at hl 0 rfl) ?_
  refine lv_iconst (v := (0 : Int32)) hx hb dX10_toAsk_1 (by decide) ?_
  refine va_put (D := (dC, dI)) (ci := 8) (v := .int (0 : Int32)) (ty := .int) (C := RX10) (T := TX10) (N := 31) hx hb hts iX10 tyX10 tyX10_ok nmX10 hown hK hP (kb_D hD rfl) hS 0 rfl rfl 0 (by decide) f66 (fun _ h9 => h9) rfl (by decide +kernel) rfl rfl (Nat.le_of_ble_eq_true rfl) dX10_toAsk_2 (fun H locs hP _ hS => ?_)
  have hP : va_P (dC, dI) vwCl [oX10 a_th (.int (0 : Int32)) q_text (.int v_textSize) (.int v_place) (.ref a_question) (.int v_questionSize) (.int v_facts) (.int v_isSo) (.int v_common) (.int v_readFacts) (.int v_readSo) (.int v_readCommon) (.int v_readDay) (.ref a_page) (.long v_seed) q_book q_bookSeed (.int v_acts) q_kept q_isKept (.int v_told) q_toldSimple q_toldDay q_toldYes (.ref a_yesOf) (.ref a_noOf) q_factOf (.ref a_stack) (.ref a_one) q_two q_three, aI cI a_page 12 v_page, aI cI a_question 16 v_question, aI cZ a_stack 17 v_stack, aI cI a_yesOf 931 v_yesOf, aI cI a_noOf 931 v_noOf, aI cI a_one 7 v_one] H := hP
  refine lv_bipush (v := (-9 : Int32)) hx hb dX10_toAsk_5 (by decide) ?_
  refine lv_istore_n (lv' := [(1, .int (-9 : Int32)), (0, .ref a_th)]) hx hb dX10_toAsk_7 rfl hl (by decide) rfl (fun ls hl => ?_)
  refine lv_iconst (v := (0 : Int32)) hx hb dX10_toAsk_8 (by decide) ?_
  refine lv_istore_n (lv' := [(2, .int (0 : Int32)), (1, .int (-9 : Int32)), (0, .ref a_th)]) hx hb dX10_toAsk_9 rfl hl (by decide) rfl (fun ls hl => ?_)
  refine lv_iconst (v := (0 : Int32)) hx hb dX10_toAsk_10 (by decide) ?_
  refine lv_istore_n (lv' := [(3, .int (0 : Int32)), (2, .int (0 : Int32)), (1, .int (-9 : Int32)), (0, .ref a_th)]) hx hb dX10_toAsk_11 rfl hl (by decide) rfl (fun ls hl => ?_)
  have lp12 : ∀ (n12 : Nat) (x1 : Int32) (x2 : Int32) (x3 : Int32) (w4 : (Nat → Int32)) (w5 : (Nat → Int32)) (k12 : Int32 → (Nat → Int32) → (Nat → Int32) → Option (Int32 × Int32 × (Nat → Int32) × (Nat → Int32))) (H : Heap) (locs : List Loc) (ls : Array Slot), L_X10_toAsk_12 v_questionSize v_facts v_page v_question v_yesOf v_noOf n12 x1 x2 x3 w4 w5 k12 = some o → (∀ (x6 : Int32) (w7 : (Nat → Int32)) (w8 : (Nat → Int32)) (H : Heap) (locs : List Loc) (ls : Array Slot), k12 x6 w7 w8 = some o → va_P (dC, dI) vwCl [oX10 a_th (.int (0 : Int32)) q_text (.int v_textSize) (.int v_place) (.ref a_question) (.int v_questionSize) (.int v_facts) (.int v_isSo) (.int v_common) (.int v_readFacts) (.int v_readSo) (.int v_readCommon) (.int v_readDay) (.ref a_page) (.long v_seed) q_book q_bookSeed (.int v_acts) q_kept q_isKept (.int v_told) q_toldSimple q_toldDay q_toldYes (.ref a_yesOf) (.ref a_noOf) q_factOf (.ref a_stack) (.ref a_one) q_two q_three, aI cI a_page 12 v_page, aI cI a_question 16 v_question, aI cZ a_stack 17 w7, aI cI a_yesOf 931 v_yesOf, aI cI a_noOf 931 v_noOf, aI cI a_one 7 w8] H → va_S A s.heap H locs → lv_has ls 7 [(1, .int x6)] → W p l e (headSpec wsX10_toAsk { frames := 6, cells := 0, slots := 0, locals := 154 }).room s m [.ref a_th].toArray below meth c H locs 0 0 Q (F0 m 92 ls [])) → va_P (dC, dI) vwCl [oX10 a_th (.int (0 : Int32)) q_text (.int v_textSize) (.int v_place) (.ref a_question) (.int v_questionSize) (.int v_facts) (.int v_isSo) (.int v_common) (.int v_readFacts) (.int v_readSo) (.int v_readCommon) (.int v_readDay) (.ref a_page) (.long v_seed) q_book q_bookSeed (.int v_acts) q_kept q_isKept (.int v_told) q_toldSimple q_toldDay q_toldYes (.ref a_yesOf) (.ref a_noOf) q_factOf (.ref a_stack) (.ref a_one) q_two q_three, aI cI a_page 12 v_page, aI cI a_question 16 v_question, aI cZ a_stack 17 w4, aI cI a_yesOf 931 v_yesOf, aI cI a_noOf 931 v_noOf, aI cI a_one 7 w5] H → va_S A s.heap H locs → lv_has ls 7 [(0, .ref a_th), (1, .int x1), (2, .int x2), (3, .int x3)] → W p l e (headSpec wsX10_toAsk { frames := 6, cells := 0, slots := 0, locals := 154 }).room s m [.ref a_th].toArray below meth c H locs 0 0 Q (F0 m 12 ls []) := by
    intro n12
    induction n12 with
    | zero =>
      intro x1 x2 x3 w4 w5 k12 H locs ls hm
      cases (show (none : Option (Int32 × Int32 × (Nat → Int32) × (Nat → Int32))) = some o from hm)
    | succ n12 ih12 =>
      intro x1 x2 x3 w4 w5 k12 H locs ls hm hk12 hP hS hl
      rw [L_X10_toAsk_12.eq_2] at hm
      refine lv_iload_n hx hb dX10_toAsk_12 rfl (lv_at hl 3 rfl) ?_
      refine lv_bipush (v := (19 : Int32)) hx hb dX10_toAsk_13 (by decide) ?_
      refine lv_icmp_ge (tgt := 92) hx hb dX10_toAsk_15 (by decide) (fun c9 => ?_) (fun c9 => ?_)
      · replace hm := ite_t c9 hm
        exact hk12 x1 w4 w5 _ _ _ hm hP hS (lv_sub hl [1] rfl)
      · replace hm := ite_f c9 hm
        refine lv_aload_n hx hb dX10_toAsk_18 rfl (lv_at hl 0 rfl) ?_
        refine lv_iload_n hx hb dX10_toAsk_19 rfl (lv_at hl 3 rfl) ?_
        obtain ⟨r10, ho11, hm⟩ := bd1_s hm
        refine kb_calli (Rv := r10) (va_runV (As := [.int x3]) (rest := []) ⟨hx, hb, hml, hown, hts⟩ (c_X10_noSimple l dC dI cI cJ cZ cQ t H.size a_th q_text (.ref a_question) (.ref a_page) q_book q_bookSeed q_kept q_isKept q_toldSimple q_toldDay q_toldYes (.ref a_yesOf) (.ref a_noOf) q_factOf (.ref a_stack) (.ref a_one) q_two q_three (0 : Int32) v_textSize v_place v_questionSize v_facts v_isSo v_common v_readFacts v_readSo v_readCommon v_readDay v_seed v_acts v_told x3 (r10) ho11) (cwV 1 hts gX10_toAsk_X10_noSimple rfl rfl rfl (by decide +kernel) ⟨(Nat.le_of_ble_eq_true rfl), (Nat.le_of_ble_eq_true rfl)⟩) ⟨(kb_pre hK hG hP (kb_D hD rfl) hS hA [0] rfl (by decide)).1, (va_recv hK hP (ci := 8) (q0 := 0) rfl rfl), (kb_pre hK hG hP (kb_D hD rfl) hS hA [0] rfl (by decide)).2⟩ rfl rfl hl.1 rfl (lv_room (Nat.le_of_ble_eq_true rfl)) dX10_toAsk_20 ⟨Nat.zero_le _, Nat.zero_le _⟩) hP (kb_D hD rfl) hS hA [0] rfl [(true, 0), (false, 1), (false, 2), (false, 3), (false, 4), (false, 5), (false, 6)] (w2 := [oX10 a_th (.int (0 : Int32)) q_text (.int v_textSize) (.int v_place) (.ref a_question) (.int v_questionSize) (.int v_facts) (.int v_isSo) (.int v_common) (.int v_readFacts) (.int v_readSo) (.int v_readCommon) (.int v_readDay) (.ref a_page) (.long v_seed) q_book q_bookSeed (.int v_acts) q_kept q_isKept (.int v_told) q_toldSimple q_toldDay q_toldYes (.ref a_yesOf) (.ref a_noOf) q_factOf (.ref a_stack) (.ref a_one) q_two q_three, aI cI a_page 12 v_page, aI cI a_question 16 v_question, aI cZ a_stack 17 w4, aI cI a_yesOf 931 v_yesOf, aI cI a_noOf 931 v_noOf, aI cI a_one 7 w5]) rfl (by decide) (fun H locs hP hS => ?_)
        obtain ⟨k86, ek86, hm⟩ := nm_s hm
        have J86 : ∀ (x12 : Int32) (x13 : Int32) (w14 : (Nat → Int32)) (w15 : (Nat → Int32)) (H : Heap) (locs : List Loc) (ls : Array Slot), k86 x12 x13 w14 w15 = some o → va_P (dC, dI) vwCl [oX10 a_th (.int (0 : Int32)) q_text (.int v_textSize) (.int v_place) (.ref a_question) (.int v_questionSize) (.int v_facts) (.int v_isSo) (.int v_common) (.int v_readFacts) (.int v_readSo) (.int v_readCommon) (.int v_readDay) (.ref a_page) (.long v_seed) q_book q_bookSeed (.int v_acts) q_kept q_isKept (.int v_told) q_toldSimple q_toldDay q_toldYes (.ref a_yesOf) (.ref a_noOf) q_factOf (.ref a_stack) (.ref a_one) q_two q_three, aI cI a_page 12 v_page, aI cI a_question 16 v_question, aI cZ a_stack 17 w14, aI cI a_yesOf 931 v_yesOf, aI cI a_noOf 931 v_noOf, aI cI a_one 7 w15] H → va_S A s.heap H locs → lv_has ls 7 [(0, .ref a_th), (1, .int x12), (2, .int x13), (3, .int x3)] → W p l e (headSpec wsX10_toAsk { frames := 6, cells := 0, slots := 0, locals := 154 }).room s m [.ref a_th].toArray below meth c H locs 0 0 Q (F0 m 86 ls []) := by
          intro x12 x13 w14 w15 H locs ls hm hP hS hl
          rw [ek86] at hm
          obtain ⟨x16, ex16⟩ : ∃ y : Int32, y = x3 + (1 : Int32) := ⟨_, rfl⟩
          replace hm := nm_t ex16 hm
          refine lv_iinc (v := x16) (lv' := [(3, .int x16), (0, .ref a_th), (1, .int x12), (2, .int x13)]) hx hb dX10_toAsk_86 hl (k := 3) rfl (by rw [ex16]; rfl) (by decide) rfl (fun ls hl => ?_)
          refine lv_goto (tgt := 12) hx hb dX10_toAsk_89 (by decide) ?_
          exact ih12 x12 x13 x16 w14 w15 k12 _ _ _ hm hk12 hP hS (lv_sub hl [1, 2, 3, 0] rfl)
        refine lv_if_ne (tgt := 86) hx hb dX10_toAsk_23 (by decide) (fun c17 => ?_) (fun c17 => ?_)
        · replace hm := ite_f c17 hm
          exact J86 x1 x2 w4 w5 _ _ _ hm hP hS (lv_sub hl [0, 1, 2, 3] rfl)
        · replace hm := ite_t c17 hm
          refine lv_iconst (v := (0 : Int32)) hx hb dX10_toAsk_26 (by decide) ?_
          refine lv_istore (lv' := [(4, .int (0 : Int32)), (0, .ref a_th), (1, .int x1), (2, .int x2), (3, .int x3)]) hx hb dX10_toAsk_27 hl (by decide) rfl (fun ls hl => ?_)
          refine lv_iconst (v := (0 : Int32)) hx hb dX10_toAsk_29 (by decide) ?_
          refine lv_istore (lv' := [(5, .int (0 : Int32)), (4, .int (0 : Int32)), (0, .ref a_th), (1, .int x1), (2, .int x2), (3, .int x3)]) hx hb dX10_toAsk_30 hl (by decide) rfl (fun ls hl => ?_)
          have lp32 : ∀ (n32 : Nat) (x18 : Int32) (x19 : Int32) (w20 : (Nat → Int32)) (w21 : (Nat → Int32)) (k32 : Int32 → (Nat → Int32) → (Nat → Int32) → Option (Int32 × Int32 × (Nat → Int32) × (Nat → Int32))) (H : Heap) (locs : List Loc) (ls : Array Slot), L_X10_toAsk_32 v_questionSize v_facts v_page v_question v_yesOf v_noOf x3 n32 x18 x19 w20 w21 k32 = some o → (∀ (x22 : Int32) (w23 : (Nat → Int32)) (w24 : (Nat → Int32)) (H : Heap) (locs : List Loc) (ls : Array Slot), k32 x22 w23 w24 = some o → va_P (dC, dI) vwCl [oX10 a_th (.int (0 : Int32)) q_text (.int v_textSize) (.int v_place) (.ref a_question) (.int v_questionSize) (.int v_facts) (.int v_isSo) (.int v_common) (.int v_readFacts) (.int v_readSo) (.int v_readCommon) (.int v_readDay) (.ref a_page) (.long v_seed) q_book q_bookSeed (.int v_acts) q_kept q_isKept (.int v_told) q_toldSimple q_toldDay q_toldYes (.ref a_yesOf) (.ref a_noOf) q_factOf (.ref a_stack) (.ref a_one) q_two q_three, aI cI a_page 12 v_page, aI cI a_question 16 v_question, aI cZ a_stack 17 w23, aI cI a_yesOf 931 v_yesOf, aI cI a_noOf 931 v_noOf, aI cI a_one 7 w24] H → va_S A s.heap H locs → lv_has ls 7 [(0, .ref a_th), (1, .int x1), (2, .int x2), (3, .int x3), (4, .int x22)] → W p l e (headSpec wsX10_toAsk { frames := 6, cells := 0, slots := 0, locals := 154 }).room s m [.ref a_th].toArray below meth c H locs 0 0 Q (F0 m 69 ls [])) → va_P (dC, dI) vwCl [oX10 a_th (.int (0 : Int32)) q_text (.int v_textSize) (.int v_place) (.ref a_question) (.int v_questionSize) (.int v_facts) (.int v_isSo) (.int v_common) (.int v_readFacts) (.int v_readSo) (.int v_readCommon) (.int v_readDay) (.ref a_page) (.long v_seed) q_book q_bookSeed (.int v_acts) q_kept q_isKept (.int v_told) q_toldSimple q_toldDay q_toldYes (.ref a_yesOf) (.ref a_noOf) q_factOf (.ref a_stack) (.ref a_one) q_two q_three, aI cI a_page 12 v_page, aI cI a_question 16 v_question, aI cZ a_stack 17 w20, aI cI a_yesOf 931 v_yesOf, aI cI a_noOf 931 v_noOf, aI cI a_one 7 w21] H → va_S A s.heap H locs → lv_has ls 7 [(0, .ref a_th), (1, .int x1), (2, .int x2), (3, .int x3), (4, .int x18), (5, .int x19)] → W p l e (headSpec wsX10_toAsk { frames := 6, cells := 0, slots := 0, locals := 154 }).room s m [.ref a_th].toArray below meth c H locs 0 0 Q (F0 m 32 ls []) := by
            intro n32
            induction n32 with
            | zero =>
              intro x18 x19 w20 w21 k32 H locs ls hm
              cases (show (none : Option (Int32 × Int32 × (Nat → Int32) × (Nat → Int32))) = some o from hm)
            | succ n32 ih32 =>
              intro x18 x19 w20 w21 k32 H locs ls hm hk32 hP hS hl
              rw [L_X10_toAsk_32.eq_2] at hm
              refine lv_iload hx hb dX10_toAsk_32 (lv_at hl 5 rfl) ?_
              refine lv_iconst (v := (3 : Int32)) hx hb dX10_toAsk_34 (by decide) ?_
              refine lv_icmp_ge (tgt := 69) hx hb dX10_toAsk_35 (by decide) (fun c25 => ?_) (fun c25 => ?_)
              · replace hm := ite_t c25 hm
                exact hk32 x18 w20 w21 _ _ _ hm hP hS (lv_sub hl [0, 1, 2, 3, 4] rfl)
              · replace hm := ite_f c25 hm
                refine lv_aload_n hx hb dX10_toAsk_38 rfl (lv_at hl 0 rfl) ?_
                refine lv_iload_n hx hb dX10_toAsk_39 rfl (lv_at hl 3 rfl) ?_
                refine lv_iload hx hb dX10_toAsk_40 (lv_at hl 5 rfl) ?_
                obtain ⟨r26, w27, w28, ho29, hm⟩ := bd3_s hm
                refine kb_calli (Rv := r26) (va_runV (As := [.int x3, .int x19]) (rest := []) ⟨hx, hb, hml, hown, hts⟩ (c_X10_partMany l dC dI cI cJ cZ cQ t H.size a_th a_page a_question a_stack a_yesOf a_noOf a_one q_text q_book q_bookSeed q_kept q_isKept q_toldSimple q_toldDay q_toldYes q_factOf q_two q_three (0 : Int32) v_textSize v_place v_questionSize v_facts v_isSo v_common v_readFacts v_readSo v_readCommon v_readDay v_seed v_acts v_told v_page v_question w20 v_yesOf v_noOf w21 x3 x19 (r26, w27, w28) ho29) (cwV 2 hts gX10_toAsk_X10_partMany rfl rfl rfl (by decide +kernel) ⟨(Nat.le_of_ble_eq_true rfl), (Nat.le_of_ble_eq_true rfl)⟩) ⟨(kb_pre hK hG hP (kb_D hD rfl) hS hA [0, 1, 2, 3, 4, 5, 6] rfl (by decide)).1, (va_recv hK hP (ci := 8) (q0 := 0) rfl rfl), (kb_pre hK hG hP (kb_D hD rfl) hS hA [0, 1, 2, 3, 4, 5, 6] rfl (by decide)).2⟩ rfl rfl hl.1 rfl (lv_room (Nat.le_of_ble_eq_true rfl)) dX10_toAsk_42 ⟨Nat.zero_le _, Nat.zero_le _⟩) hP (kb_D hD rfl) hS hA [0, 1, 2, 3, 4, 5, 6] rfl [(true, 0), (true, 1), (true, 2), (true, 3), (true, 4), (true, 5), (true, 6)] (w2 := [oX10 a_th (.int (0 : Int32)) q_text (.int v_textSize) (.int v_place) (.ref a_question) (.int v_questionSize) (.int v_facts) (.int v_isSo) (.int v_common) (.int v_readFacts) (.int v_readSo) (.int v_readCommon) (.int v_readDay) (.ref a_page) (.long v_seed) q_book q_bookSeed (.int v_acts) q_kept q_isKept (.int v_told) q_toldSimple q_toldDay q_toldYes (.ref a_yesOf) (.ref a_noOf) q_factOf (.ref a_stack) (.ref a_one) q_two q_three, aI cI a_page 12 v_page, aI cI a_question 16 v_question, aI cZ a_stack 17 w27, aI cI a_yesOf 931 v_yesOf, aI cI a_noOf 931 v_noOf, aI cI a_one 7 w28]) rfl (by decide) (fun H locs hP hS => ?_)
                refine lv_istore (lv' := [(6, .int r26), (0, .ref a_th), (1, .int x1), (2, .int x2), (3, .int x3), (4, .int x18), (5, .int x19)]) hx hb dX10_toAsk_45 hl (by decide) rfl (fun ls hl => ?_)
                refine lv_iload hx hb dX10_toAsk_47 (lv_at hl 0 rfl) ?_
                refine lv_iload hx hb dX10_toAsk_49 (lv_at hl 5 rfl) ?_
                obtain ⟨k61, ek61, hm⟩ := nm_s hm
                have J61 : ∀ (x30 : Int32) (H : Heap) (locs : List Loc) (ls : Array Slot), k61 x30 = some o → va_P (dC, dI) vwCl [oX10 a_th (.int (0 : Int32)) q_text (.int v_textSize) (.int v_place) (.ref a_question) (.int v_questionSize) (.int v_facts) (.int v_isSo) (.int v_common) (.int v_readFacts) (.int v_readSo) (.int v_readCommon) (.int v_readDay) (.ref a_page) (.long v_seed) q_book q_bookSeed (.int v_acts) q_kept q_isKept (.int v_told) q_toldSimple q_toldDay q_toldYes (.ref a_yesOf) (.ref a_noOf) q_factOf (.ref a_stack) (.ref a_one) q_two q_three, aI cI a_page 12 v_page, aI cI a_question 16 v_question, aI cZ a_stack 17 w27, aI cI a_yesOf 931 v_yesOf, aI cI a_noOf 931 v_noOf, aI cI a_one 7 w28] H → va_S A s.heap H locs → lv_has ls 7 [(0, .ref a_th), (1, .int x1), (2, .int x2), (3, .int x3), (5, .int x19)] → W p l e (headSpec wsX10_toAsk { frames := 6, cells := 0, slots := 0, locals := 154 }).room s m [.ref a_th].toArray below meth c H locs 0 0 Q (F0 m 61 ls [.int x30]) := by
                  intro x30 H locs ls hm hP hS hl
                  rw [ek61] at hm
                  refine lv_istore (lv' := [(4, .int x30), (0, .ref a_th), (1, .int x1), (2, .int x2), (3, .int x3), (5, .int x19)]) hx hb dX10_toAsk_61 hl (by decide) rfl (fun ls hl => ?_)
                  obtain ⟨x31, ex31⟩ : ∃ y : Int32, y = x19 + (1 : Int32) := ⟨_, rfl⟩
                  replace hm := nm_t ex31 hm
                  refine lv_iinc (v := x31) (lv' := [(5, .int x31), (4, .int x30), (0, .ref a_th), (1, .int x1), (2, .int x2), (3, .int x3)]) hx hb dX10_toAsk_63 hl (k := 5) rfl (by rw [ex31]; rfl) (by decide) rfl (fun ls hl => ?_)
                  refine lv_goto (tgt := 32) hx hb dX10_toAsk_66 (by decide) ?_
                  exact ih32 x30 x31 w27 w28 k32 _ _ _ hm hk32 hP hS (lv_sub hl [2, 3, 4, 5, 1, 0] rfl)
                refine lv_icmp_le (tgt := 59) hx hb dX10_toAsk_51 (by decide) (fun c32 => ?_) (fun c32 => ?_)
                · replace hm := ite_t c32 hm
                  refine lv_iload hx hb dX10_toAsk_59 (lv_at hl 5 rfl) ?_
                  exact J61 x18 _ _ _ hm hP hS (lv_sub hl [1, 2, 3, 4, 6] rfl)
                · replace hm := ite_f c32 hm
                  refine lv_iload hx hb dX10_toAsk_54 (lv_at hl 0 rfl) ?_
                  refine lv_goto (tgt := 61) hx hb dX10_toAsk_56 (by decide) ?_
                  exact J61 r26 _ _ _ hm hP hS (lv_sub hl [1, 2, 3, 4, 6] rfl)
          refine lp32 1024 (0 : Int32) (0 : Int32) w4 w5 _ _ _ _ hm (fun x22 w23 w24 H locs ls hm hP hS hl => ?_) hP hS (lv_sub hl [2, 3, 4, 5, 1, 0] rfl)
          refine lv_iload_n hx hb dX10_toAsk_69 rfl (lv_at hl 1 rfl) ?_
          refine lv_bipush (v := (-9 : Int32)) hx hb dX10_toAsk_70 (by decide) ?_
          obtain ⟨k81, ek81, hm⟩ := nm_s hm
          have J81 : ∀ (H : Heap) (locs : List Loc) (ls : Array Slot), k81 = some o → va_P (dC, dI) vwCl [oX10 a_th (.int (0 : Int32)) q_text (.int v_textSize) (.int v_place) (.ref a_question) (.int v_questionSize) (.int v_facts) (.int v_isSo) (.int v_common) (.int v_readFacts) (.int v_readSo) (.int v_readCommon) (.int v_readDay) (.ref a_page) (.long v_seed) q_book q_bookSeed (.int v_acts) q_kept q_isKept (.int v_told) q_toldSimple q_toldDay q_toldYes (.ref a_yesOf) (.ref a_noOf) q_factOf (.ref a_stack) (.ref a_one) q_two q_three, aI cI a_page 12 v_page, aI cI a_question 16 v_question, aI cZ a_stack 17 w23, aI cI a_yesOf 931 v_yesOf, aI cI a_noOf 931 v_noOf, aI cI a_one 7 w24] H → va_S A s.heap H locs → lv_has ls 7 [(0, .ref a_th), (3, .int x3), (4, .int x22)] → W p l e (headSpec wsX10_toAsk { frames := 6, cells := 0, slots := 0, locals := 154 }).room s m [.ref a_th].toArray below meth c H locs 0 0 Q (F0 m 81 ls []) := by
            intro  H locs ls hm hP hS hl
            rw [ek81] at hm
            refine lv_iload_n hx hb dX10_toAsk_81 rfl (lv_at hl 1 rfl) ?_
            refine lv_istore_n (lv' := [(1, .int x3), (0, .ref a_th), (3, .int x3), (4, .int x22)]) hx hb dX10_toAsk_82 rfl hl (by decide) rfl (fun ls hl => ?_)
            refine lv_iload hx hb dX10_toAsk_83 (lv_at hl 3 rfl) ?_
            refine lv_istore_n (lv' := [(2, .int x22), (1, .int x3), (0, .ref a_th), (3, .int x3), (4, .int x22)]) hx hb dX10_toAsk_85 rfl hl (by decide) rfl (fun ls hl => ?_)
            exact J86 x3 x22 w23 w24 _ _ _ hm hP hS (lv_sub hl [2, 1, 0, 3] rfl)
          refine lv_icmp_eq (tgt := 81) hx hb dX10_toAsk_72 (by decide) (fun c33 => ?_) (fun c33 => ?_)
          · replace hm := ite_t c33 hm
            exact J81  _ _ _ hm hP hS (lv_sub hl [0, 3, 4] rfl)
          · replace hm := ite_f c33 hm
            refine lv_iload hx hb dX10_toAsk_75 (lv_at hl 4 rfl) ?_
            refine lv_iload_n hx hb dX10_toAsk_77 rfl (lv_at hl 2 rfl) ?_
            refine lv_icmp_ge (tgt := 86) hx hb dX10_toAsk_78 (by decide) (fun c34 => ?_) (fun c34 => ?_)
            · replace hm := ite_t c34 hm
              exact J86 x1 x2 w23 w24 _ _ _ hm hP hS (lv_sub hl [0, 1, 2, 3] rfl)
            · replace hm := ite_f c34 hm
              exact J81  _ _ _ hm hP hS (lv_sub hl [0, 3, 4] rfl)
  refine lp12 1024 (-9 : Int32) (0 : Int32) (0 : Int32) v_stack v_one _ _ _ _ hm (fun x6 w7 w8 H locs ls hm hP hS hl => ?_) hP hS (lv_sub hl [3, 2, 1, 0] rfl)
  refine lv_iload_n hx hb dX10_toAsk_92 rfl (lv_at hl 0 rfl) ?_
  obtain rfl := Option.some.inj hm
  subst hQ
  exact W.iret hx hb hr (fun t ht hW => ⟨⟨_, (), rfl, rfl, kb_h hP ht⟩, hS.F ht⟩) hS.2.2 dX10_toAsk_93
set_option maxHeartbeats 4000000 in
set_option maxRecDepth 100000 in
theorem c_X10_dumb (l : Launch) (dC : Nat → ClassId) (dI : Nat → Nat → Nat) (cI cJ cZ cQ : ClassId) (t sz : Nat) (a_th : Nat) (a_page : Nat) (a_question : Nat) (a_stack : Nat) (a_yesOf : Nat) (a_noOf : Nat) (a_one : Nat) (q_text : Value) (q_book : Value) (q_bookSeed : Value) (q_kept : Value) (q_isKept : Value) (q_toldSimple : Value) (q_toldDay : Value) (q_toldYes : Value) (q_factOf : Value) (q_two : Value) (q_three : Value) (v_thrown : Int32) (v_textSize : Int32) (v_place : Int32) (v_questionSize : Int32) (v_facts : Int32) (v_isSo : Int32) (v_common : Int32) (v_readFacts : Int32) (v_readSo : Int32) (v_readCommon : Int32) (v_readDay : Int32) (v_seed : Int64) (v_acts : Int32) (v_told : Int32) (v_page : (Nat → Int32)) (v_question : (Nat → Int32)) (v_stack : (Nat → Int32)) (v_yesOf : (Nat → Int32)) (v_noOf : (Nat → Int32)) (v_one : (Nat → Int32)) (o : Int32 × Int32 × (Nat → Int32) × (Nat → Int32)) (hm : m_X10_dumb v_thrown v_questionSize v_facts v_page v_question v_stack v_yesOf v_noOf v_one = some o) : Met l yX10_dumb wsX10_dumb { frames := 6, cells := 0, slots := 0, locals := 154 } (va_Pc [.ref a_th] (cP (dC, dI) (kT cI cJ cZ cQ) t sz [oX10 a_th (.int v_thrown) q_text (.int v_textSize) (.int v_place) (.ref a_question) (.int v_questionSize) (.int v_facts) (.int v_isSo) (.int v_common) (.int v_readFacts) (.int v_readSo) (.int v_readCommon) (.int v_readDay) (.ref a_page) (.long v_seed) q_book q_bookSeed (.int v_acts) q_kept q_isKept (.int v_told) q_toldSimple q_toldDay q_toldYes (.ref a_yesOf) (.ref a_noOf) q_factOf (.ref a_stack) (.ref a_one) q_two q_three, aI cI a_page 12 v_page, aI cI a_question 16 v_question, aI cZ a_stack 17 v_stack, aI cI a_yesOf 931 v_yesOf, aI cI a_noOf 931 v_noOf, aI cI a_one 7 v_one])) (cQi (dC, dI) (va_A [oX10 a_th (.int v_thrown) q_text (.int v_textSize) (.int v_place) (.ref a_question) (.int v_questionSize) (.int v_facts) (.int v_isSo) (.int v_common) (.int v_readFacts) (.int v_readSo) (.int v_readCommon) (.int v_readDay) (.ref a_page) (.long v_seed) q_book q_bookSeed (.int v_acts) q_kept q_isKept (.int v_told) q_toldSimple q_toldDay q_toldYes (.ref a_yesOf) (.ref a_noOf) q_factOf (.ref a_stack) (.ref a_one) q_two q_three, aI cI a_page 12 v_page, aI cI a_question 16 v_question, aI cZ a_stack 17 v_stack, aI cI a_yesOf 931 v_yesOf, aI cI a_noOf 931 v_noOf, aI cI a_one 7 v_one] sz) o.1 [oX10 a_th (.int (o.2.1)) q_text (.int v_textSize) (.int v_place) (.ref a_question) (.int v_questionSize) (.int v_facts) (.int v_isSo) (.int v_common) (.int v_readFacts) (.int v_readSo) (.int v_readCommon) (.int v_readDay) (.ref a_page) (.long v_seed) q_book q_bookSeed (.int v_acts) q_kept q_isKept (.int v_told) q_toldSimple q_toldDay q_toldYes (.ref a_yesOf) (.ref a_noOf) q_factOf (.ref a_stack) (.ref a_one) q_two q_three, aI cI a_page 12 v_page, aI cI a_question 16 v_question, aI cZ a_stack 17 (o.2.2.1), aI cI a_yesOf 931 v_yesOf, aI cI a_noOf 931 v_noOf, aI cI a_one 7 (o.2.2.2)]) 0 0 (va_A [oX10 a_th (.int v_thrown) q_text (.int v_textSize) (.int v_place) (.ref a_question) (.int v_questionSize) (.int v_facts) (.int v_isSo) (.int v_common) (.int v_readFacts) (.int v_readSo) (.int v_readCommon) (.int v_readDay) (.ref a_page) (.long v_seed) q_book q_bookSeed (.int v_acts) q_kept q_isKept (.int v_told) q_toldSimple q_toldDay q_toldYes (.ref a_yesOf) (.ref a_noOf) q_factOf (.ref a_stack) (.ref a_one) q_two q_three, aI cI a_page 12 v_page, aI cI a_question 16 v_question, aI cZ a_stack 17 v_stack, aI cI a_yesOf 931 v_yesOf, aI cI a_noOf 931 v_noOf, aI cI a_one 7 v_one] sz) := by
  refine Met.ofW (cc := cX10_dumb) (maxL := 3) (ret := (some .int)) (by decide) rfl ?_
  intro p e s m args below meth c s₁ B hml hv
  obtain ⟨rfl, hsz, hP, hK, hD0, hG⟩ := hv
  have hx := B.exec
  have hb := B.bytes
  have hr := B.returns
  have hts := atoms_spec (ws := wsX10_dumb) B.pre
  have hown : s.vm.findClass RX10 = some m.cls := findClass_of_methodNamed B.named
  have hlocks := B.notSynchronized
  subst hsz
  have hD := hD0.self (sz := s.heap.size)
  generalize hAe : va_A [oX10 a_th (.int v_thrown) q_text (.int v_textSize) (.int v_place) (.ref a_question) (.int v_questionSize) (.int v_facts) (.int v_isSo) (.int v_common) (.int v_readFacts) (.int v_readSo) (.int v_readCommon) (.int v_readDay) (.ref a_page) (.long v_seed) q_book q_bookSeed (.int v_acts) q_kept q_isKept (.int v_told) q_toldSimple q_toldDay q_toldYes (.ref a_yesOf) (.ref a_noOf) q_factOf (.ref a_stack) (.ref a_one) q_two q_three, aI cI a_page 12 v_page, aI cI a_question 16 v_question, aI cZ a_stack 17 v_stack, aI cI a_yesOf 931 v_yesOf, aI cI a_noOf 931 v_noOf, aI cI a_one 7 v_one] s.heap.size = A at hD hG ⊢
  have hA : ∀ q : Nat, s.heap.size ≤ q → A q := fun q h => by rw [← hAe]; exact Or.inr h
  have hS : va_S A s.heap s.heap [] := va_S.rf
  have hl := lv_entry ([.ref a_th]) (n := 3) (Nat.le_of_ble_eq_true rfl)
  rw [lg_entry_eq]
  generalize (lg_sl ([.ref a_th]) ++ List.replicate (3 - (lg_sl ([.ref a_th])).length) Slot.unset).toArray = ls at hl ⊢
  have hl : lv_has ls 3 [(0, .ref a_th)] := hl
  have iX10 : ∀ w ∈ wsX100, w ∈ wsX10_dumb := fun _ h => List.mem_cons_of_mem _ (List.mem_append_right _ h)
  have f66 := hts (.fieldLink RX10 66 "TrueOnceWeekModel" "thrown" "I") (by decide +kernel)
  refine kb_gen (fun Q hQ => ?_)
  unfold m_X10_dumb at hm
  refine lv_aload_n hx hb dX10_dumb_0 rfl (lv_at hl 0 rfl) ?_
  refine lv_iconst (v := (0 : Int32)) hx hb dX10_dumb_1 (by decide) ?_
  refine va_put (D := (dC, dI)) (ci := 8) (v := .int (0 : Int32)) (ty := .int) (C := RX10) (T := TX10) (N := 31) hx hb hts iX10 tyX10 tyX10_ok nmX10 hown hK hP (kb_D hD rfl) hS 0 rfl rfl 0 (by decide) f66 (fun _ h9 => h9) rfl (by decide +kernel) rfl rfl (Nat.le_of_ble_eq_true rfl) dX10_dumb_2 (fun H locs hP _ hS => ?_)
  have hP : va_P (dC, dI) vwCl [oX10 a_th (.int (0 : Int32)) q_text (.int v_textSize) (.int v_place) (.ref a_question) (.int v_questionSize) (.int v_facts) (.int v_isSo) (.int v_common) (.int v_readFacts) (.int v_readSo) (.int v_readCommon) (.int v_readDay) (.ref a_page) (.long v_seed) q_book q_bookSeed (.int v_acts) q_kept q_isKept (.int v_told) q_toldSimple q_toldDay q_toldYes (.ref a_yesOf) (.ref a_noOf) q_factOf (.ref a_stack) (.ref a_one) q_two q_three, aI cI a_page 12 v_page, aI cI a_question 16 v_question, aI cZ a_stack 17 v_stack, aI cI a_yesOf 931 v_yesOf, aI cI a_noOf 931 v_noOf, aI cI a_one 7 v_one] H := hP
  refine lv_iconst (v := (0 : Int32)) hx hb dX10_dumb_5 (by decide) ?_
  refine lv_istore_n (lv' := [(1, .int (0 : Int32)), (0, .ref a_th)]) hx hb dX10_dumb_6 rfl hl (by decide) rfl (fun ls hl => ?_)
  refine lv_iconst (v := (0 : Int32)) hx hb dX10_dumb_7 (by decide) ?_
  refine lv_istore_n (lv' := [(2, .int (0 : Int32)), (1, .int (0 : Int32)), (0, .ref a_th)]) hx hb dX10_dumb_8 rfl hl (by decide) rfl (fun ls hl => ?_)
  have lp9 : ∀ (n9 : Nat) (x1 : Int32) (x2 : Int32) (w3 : (Nat → Int32)) (w4 : (Nat → Int32)) (k9 : Int32 → (Nat → Int32) → (Nat → Int32) → Option (Int32 × Int32 × (Nat → Int32) × (Nat → Int32))) (H : Heap) (locs : List Loc) (ls : Array Slot), L_X10_dumb_9 v_questionSize v_facts v_page v_question v_yesOf v_noOf n9 x1 x2 w3 w4 k9 = some o → (∀ (x5 : Int32) (w6 : (Nat → Int32)) (w7 : (Nat → Int32)) (H : Heap) (locs : List Loc) (ls : Array Slot), k9 x5 w6 w7 = some o → va_P (dC, dI) vwCl [oX10 a_th (.int (0 : Int32)) q_text (.int v_textSize) (.int v_place) (.ref a_question) (.int v_questionSize) (.int v_facts) (.int v_isSo) (.int v_common) (.int v_readFacts) (.int v_readSo) (.int v_readCommon) (.int v_readDay) (.ref a_page) (.long v_seed) q_book q_bookSeed (.int v_acts) q_kept q_isKept (.int v_told) q_toldSimple q_toldDay q_toldYes (.ref a_yesOf) (.ref a_noOf) q_factOf (.ref a_stack) (.ref a_one) q_two q_three, aI cI a_page 12 v_page, aI cI a_question 16 v_question, aI cZ a_stack 17 w6, aI cI a_yesOf 931 v_yesOf, aI cI a_noOf 931 v_noOf, aI cI a_one 7 w7] H → va_S A s.heap H locs → lv_has ls 3 [(1, .int x5)] → W p l e (headSpec wsX10_dumb { frames := 6, cells := 0, slots := 0, locals := 154 }).room s m [.ref a_th].toArray below meth c H locs 0 0 Q (F0 m 48 ls [])) → va_P (dC, dI) vwCl [oX10 a_th (.int (0 : Int32)) q_text (.int v_textSize) (.int v_place) (.ref a_question) (.int v_questionSize) (.int v_facts) (.int v_isSo) (.int v_common) (.int v_readFacts) (.int v_readSo) (.int v_readCommon) (.int v_readDay) (.ref a_page) (.long v_seed) q_book q_bookSeed (.int v_acts) q_kept q_isKept (.int v_told) q_toldSimple q_toldDay q_toldYes (.ref a_yesOf) (.ref a_noOf) q_factOf (.ref a_stack) (.ref a_one) q_two q_three, aI cI a_page 12 v_page, aI cI a_question 16 v_question, aI cZ a_stack 17 w3, aI cI a_yesOf 931 v_yesOf, aI cI a_noOf 931 v_noOf, aI cI a_one 7 w4] H → va_S A s.heap H locs → lv_has ls 3 [(0, .ref a_th), (1, .int x1), (2, .int x2)] → W p l e (headSpec wsX10_dumb { frames := 6, cells := 0, slots := 0, locals := 154 }).room s m [.ref a_th].toArray below meth c H locs 0 0 Q (F0 m 9 ls []) := by
    intro n9
    induction n9 with
    | zero =>
      intro x1 x2 w3 w4 k9 H locs ls hm
      cases (show (none : Option (Int32 × Int32 × (Nat → Int32) × (Nat → Int32))) = some o from hm)
    | succ n9 ih9 =>
      intro x1 x2 w3 w4 k9 H locs ls hm hk9 hP hS hl
      rw [L_X10_dumb_9.eq_2] at hm
      refine lv_iload_n hx hb dX10_dumb_9 rfl (lv_at hl 2 rfl) ?_
      refine lv_bipush (v := (19 : Int32)) hx hb dX10_dumb_10 (by decide) ?_
      refine lv_icmp_ge (tgt := 48) hx hb dX10_dumb_12 (by decide) (fun c8 => ?_) (fun c8 => ?_)
      · replace hm := ite_t c8 hm
        exact hk9 x1 w3 w4 _ _ _ hm hP hS (lv_sub hl [1] rfl)
      · replace hm := ite_f c8 hm
        refine lv_iload_n hx hb dX10_dumb_15 rfl (lv_at hl 1 rfl) ?_
        refine lv_aload_n hx hb dX10_dumb_16 rfl (lv_at hl 0 rfl) ?_
        refine lv_iload_n hx hb dX10_dumb_17 rfl (lv_at hl 2 rfl) ?_
        obtain ⟨r9, ho10, hm⟩ := bd1_s hm
        refine kb_calli (Rv := r9) (va_runV (As := [.int x2]) (rest := [.int x1]) ⟨hx, hb, hml, hown, hts⟩ (c_X10_noSimple l dC dI cI cJ cZ cQ t H.size a_th q_text (.ref a_question) (.ref a_page) q_book q_bookSeed q_kept q_isKept q_toldSimple q_toldDay q_toldYes (.ref a_yesOf) (.ref a_noOf) q_factOf (.ref a_stack) (.ref a_one) q_two q_three (0 : Int32) v_textSize v_place v_questionSize v_facts v_isSo v_common v_readFacts v_readSo v_readCommon v_readDay v_seed v_acts v_told x2 (r9) ho10) (cwV 1 hts gX10_dumb_X10_noSimple rfl rfl rfl (by decide +kernel) ⟨(Nat.le_of_ble_eq_true rfl), (Nat.le_of_ble_eq_true rfl)⟩) ⟨(kb_pre hK hG hP (kb_D hD rfl) hS hA [0] rfl (by decide)).1, (va_recv hK hP (ci := 8) (q0 := 0) rfl rfl), (kb_pre hK hG hP (kb_D hD rfl) hS hA [0] rfl (by decide)).2⟩ rfl rfl hl.1 rfl (lv_room (Nat.le_of_ble_eq_true rfl)) dX10_dumb_18 ⟨Nat.zero_le _, Nat.zero_le _⟩) hP (kb_D hD rfl) hS hA [0] rfl [(true, 0), (false, 1), (false, 2), (false, 3), (false, 4), (false, 5), (false, 6)] (w2 := [oX10 a_th (.int (0 : Int32)) q_text (.int v_textSize) (.int v_place) (.ref a_question) (.int v_questionSize) (.int v_facts) (.int v_isSo) (.int v_common) (.int v_readFacts) (.int v_readSo) (.int v_readCommon) (.int v_readDay) (.ref a_page) (.long v_seed) q_book q_bookSeed (.int v_acts) q_kept q_isKept (.int v_told) q_toldSimple q_toldDay q_toldYes (.ref a_yesOf) (.ref a_noOf) q_factOf (.ref a_stack) (.ref a_one) q_two q_three, aI cI a_page 12 v_page, aI cI a_question 16 v_question, aI cZ a_stack 17 w3, aI cI a_yesOf 931 v_yesOf, aI cI a_noOf 931 v_noOf, aI cI a_one 7 w4]) rfl (by decide) (fun H locs hP hS => ?_)
        obtain ⟨k40, ek40, hm⟩ := nm_s hm
        have J40 : ∀ (x11 : Int32) (w12 : (Nat → Int32)) (w13 : (Nat → Int32)) (H : Heap) (locs : List Loc) (ls : Array Slot), k40 x11 w12 w13 = some o → va_P (dC, dI) vwCl [oX10 a_th (.int (0 : Int32)) q_text (.int v_textSize) (.int v_place) (.ref a_question) (.int v_questionSize) (.int v_facts) (.int v_isSo) (.int v_common) (.int v_readFacts) (.int v_readSo) (.int v_readCommon) (.int v_readDay) (.ref a_page) (.long v_seed) q_book q_bookSeed (.int v_acts) q_kept q_isKept (.int v_told) q_toldSimple q_toldDay q_toldYes (.ref a_yesOf) (.ref a_noOf) q_factOf (.ref a_stack) (.ref a_one) q_two q_three, aI cI a_page 12 v_page, aI cI a_question 16 v_question, aI cZ a_stack 17 w12, aI cI a_yesOf 931 v_yesOf, aI cI a_noOf 931 v_noOf, aI cI a_one 7 w13] H → va_S A s.heap H locs → lv_has ls 3 [(0, .ref a_th), (2, .int x2)] → W p l e (headSpec wsX10_dumb { frames := 6, cells := 0, slots := 0, locals := 154 }).room s m [.ref a_th].toArray below meth c H locs 0 0 Q (F0 m 40 ls [.int x11, .int x1]) := by
          intro x11 w12 w13 H locs ls hm hP hS hl
          rw [ek40] at hm
          refine lv_ior hx hb dX10_dumb_40 ?_
          refine lv_topi (fun x14 ex14 => ?_)
          replace hm := nm_t ex14 hm
          refine lv_istore_n (lv' := [(1, .int x14), (0, .ref a_th), (2, .int x2)]) hx hb dX10_dumb_41 rfl hl (by decide) rfl (fun ls hl => ?_)
          obtain ⟨x15, ex15⟩ : ∃ y : Int32, y = x2 + (1 : Int32) := ⟨_, rfl⟩
          replace hm := nm_t ex15 hm
          refine lv_iinc (v := x15) (lv' := [(2, .int x15), (1, .int x14), (0, .ref a_th)]) hx hb dX10_dumb_42 hl (k := 2) rfl (by rw [ex15]; rfl) (by decide) rfl (fun ls hl => ?_)
          refine lv_goto (tgt := 9) hx hb dX10_dumb_45 (by decide) ?_
          exact ih9 x14 x15 w12 w13 k9 _ _ _ hm hk9 hP hS (lv_sub hl [2, 1, 0] rfl)
        obtain ⟨k39, ek39, hm⟩ := nm_s hm
        have J39 : ∀ (w16 : (Nat → Int32)) (w17 : (Nat → Int32)) (H : Heap) (locs : List Loc) (ls : Array Slot), k39 w16 w17 = some o → va_P (dC, dI) vwCl [oX10 a_th (.int (0 : Int32)) q_text (.int v_textSize) (.int v_place) (.ref a_question) (.int v_questionSize) (.int v_facts) (.int v_isSo) (.int v_common) (.int v_readFacts) (.int v_readSo) (.int v_readCommon) (.int v_readDay) (.ref a_page) (.long v_seed) q_book q_bookSeed (.int v_acts) q_kept q_isKept (.int v_told) q_toldSimple q_toldDay q_toldYes (.ref a_yesOf) (.ref a_noOf) q_factOf (.ref a_stack) (.ref a_one) q_two q_three, aI cI a_page 12 v_page, aI cI a_question 16 v_question, aI cZ a_stack 17 w16, aI cI a_yesOf 931 v_yesOf, aI cI a_noOf 931 v_noOf, aI cI a_one 7 w17] H → va_S A s.heap H locs → lv_has ls 3 [(0, .ref a_th), (2, .int x2)] → W p l e (headSpec wsX10_dumb { frames := 6, cells := 0, slots := 0, locals := 154 }).room s m [.ref a_th].toArray below meth c H locs 0 0 Q (F0 m 39 ls [.int x1]) := by
          intro w16 w17 H locs ls hm hP hS hl
          rw [ek39] at hm
          refine lv_iconst (v := (0 : Int32)) hx hb dX10_dumb_39 (by decide) ?_
          exact J40 (0 : Int32) w16 w17 _ _ _ hm hP hS (lv_sub hl [0, 1] rfl)
        refine lv_if_ne (tgt := 39) hx hb dX10_dumb_21 (by decide) (fun c18 => ?_) (fun c18 => ?_)
        · replace hm := ite_f c18 hm
          exact J39 w3 w4 _ _ _ hm hP hS (lv_sub hl [0, 2] rfl)
        · replace hm := ite_t c18 hm
          refine lv_aload_n hx hb dX10_dumb_24 rfl (lv_at hl 0 rfl) ?_
          refine lv_iload_n hx hb dX10_dumb_25 rfl (lv_at hl 2 rfl) ?_
          refine lv_iconst (v := (2 : Int32)) hx hb dX10_dumb_26 (by decide) ?_
          obtain ⟨r19, w20, w21, ho22, hm⟩ := bd3_s hm
          refine kb_calli (Rv := r19) (va_runV (As := [.int x2, .int (2 : Int32)]) (rest := [.int x1]) ⟨hx, hb, hml, hown, hts⟩ (c_X10_partMany l dC dI cI cJ cZ cQ t H.size a_th a_page a_question a_stack a_yesOf a_noOf a_one q_text q_book q_bookSeed q_kept q_isKept q_toldSimple q_toldDay q_toldYes q_factOf q_two q_three (0 : Int32) v_textSize v_place v_questionSize v_facts v_isSo v_common v_readFacts v_readSo v_readCommon v_readDay v_seed v_acts v_told v_page v_question w3 v_yesOf v_noOf w4 x2 (2 : Int32) (r19, w20, w21) ho22) (cwV 2 hts gX10_dumb_X10_partMany rfl rfl rfl (by decide +kernel) ⟨(Nat.le_of_ble_eq_true rfl), (Nat.le_of_ble_eq_true rfl)⟩) ⟨(kb_pre hK hG hP (kb_D hD rfl) hS hA [0, 1, 2, 3, 4, 5, 6] rfl (by decide)).1, (va_recv hK hP (ci := 8) (q0 := 0) rfl rfl), (kb_pre hK hG hP (kb_D hD rfl) hS hA [0, 1, 2, 3, 4, 5, 6] rfl (by decide)).2⟩ rfl rfl hl.1 rfl (lv_room (Nat.le_of_ble_eq_true rfl)) dX10_dumb_27 ⟨Nat.zero_le _, Nat.zero_le _⟩) hP (kb_D hD rfl) hS hA [0, 1, 2, 3, 4, 5, 6] rfl [(true, 0), (true, 1), (true, 2), (true, 3), (true, 4), (true, 5), (true, 6)] (w2 := [oX10 a_th (.int (0 : Int32)) q_text (.int v_textSize) (.int v_place) (.ref a_question) (.int v_questionSize) (.int v_facts) (.int v_isSo) (.int v_common) (.int v_readFacts) (.int v_readSo) (.int v_readCommon) (.int v_readDay) (.ref a_page) (.long v_seed) q_book q_bookSeed (.int v_acts) q_kept q_isKept (.int v_told) q_toldSimple q_toldDay q_toldYes (.ref a_yesOf) (.ref a_noOf) q_factOf (.ref a_stack) (.ref a_one) q_two q_three, aI cI a_page 12 v_page, aI cI a_question 16 v_question, aI cZ a_stack 17 w20, aI cI a_yesOf 931 v_yesOf, aI cI a_noOf 931 v_noOf, aI cI a_one 7 w21]) rfl (by decide) (fun H locs hP hS => ?_)
          refine lv_if_le (tgt := 39) hx hb dX10_dumb_30 (by decide) (fun c23 => ?_) (fun c23 => ?_)
          · replace hm := ite_t c23 hm
            exact J39 w20 w21 _ _ _ hm hP hS (lv_sub hl [0, 2] rfl)
          · replace hm := ite_f c23 hm
            refine lv_iconst (v := (1 : Int32)) hx hb dX10_dumb_33 (by decide) ?_
            refine lv_iload_n hx hb dX10_dumb_34 rfl (lv_at hl 2 rfl) ?_
            refine lv_ishl hx hb dX10_dumb_35 ?_
            refine lv_goto (tgt := 40) hx hb dX10_dumb_36 (by decide) ?_
            exact J40 ((1 : Int32) <<< (x2 &&& 31)) w20 w21 _ _ _ hm hP hS (lv_sub hl [0, 2] rfl)
  refine lp9 1024 (0 : Int32) (0 : Int32) v_stack v_one _ _ _ _ hm (fun x5 w6 w7 H locs ls hm hP hS hl => ?_) hP hS (lv_sub hl [2, 1, 0] rfl)
  refine lv_iload_n hx hb dX10_dumb_48 rfl (lv_at hl 0 rfl) ?_
  obtain rfl := Option.some.inj hm
  subst hQ
  exact W.iret hx hb hr (fun t ht hW => ⟨⟨_, (), rfl, rfl, kb_h hP ht⟩, hS.F ht⟩) hS.2.2 dX10_dumb_49
set_option maxHeartbeats 4000000 in
set_option maxRecDepth 100000 in
theorem c_X10_answerAt (l : Launch) (dC : Nat → ClassId) (dI : Nat → Nat → Nat) (cI cJ cZ cQ : ClassId) (t sz : Nat) (p_0 : Int32) (o : Int32) (hm : m_X10_answerAt p_0 = some o) : Met l yX10_answerAt wsX10_answerAt { frames := 0, cells := 0, slots := 0, locals := 0 } (va_Pc [.int p_0] (cP (dC, dI) (kT cI cJ cZ cQ) t sz [])) (cQi (dC, dI) (va_A [] sz) o []) 0 0 (va_A [] sz) := by
  refine Met.ofW (cc := cX10_answerAt) (maxL := 1) (ret := (some .int)) (by decide) rfl ?_
  intro p e s m args below meth c s₁ B hml hv
  obtain ⟨rfl, hsz, hP, hK, hD0, hG⟩ := hv
  have hx := B.exec
  have hb := B.bytes
  have hr := B.returns
  have hts := atoms_spec (ws := wsX10_answerAt) B.pre
  have hown : s.vm.findClass RX10 = some m.cls := findClass_of_methodNamed B.named
  have hlocks := B.notSynchronized
  subst hsz
  have hD := hD0.self (sz := s.heap.size)
  generalize hAe : va_A [] s.heap.size = A at hD hG ⊢
  have hA : ∀ q : Nat, s.heap.size ≤ q → A q := fun q h => by rw [← hAe]; exact Or.inr h
  have hS : va_S A s.heap s.heap [] := va_S.rf
  have hl := lv_entry ([.int p_0]) (n := 1) (Nat.le_of_ble_eq_true rfl)
  rw [lg_entry_eq]
  generalize (lg_sl ([.int p_0]) ++ List.replicate (1 - (lg_sl ([.int p_0])).length) Slot.unset).toArray = ls at hl ⊢
  have hl : lv_has ls 1 [(0, .int p_0)] := hl
  refine kb_gen (fun Q hQ => ?_)
  unfold m_X10_answerAt at hm
  refine lv_iload_n hx hb dX10_answerAt_0 rfl (lv_at hl 0 rfl) ?_
  refine lv_iconst (v := (2 : Int32)) hx hb dX10_answerAt_1 (by decide) ?_
  refine lv_icmp_ne (tgt := 10) hx hb dX10_answerAt_2 (by decide) (fun c1 => ?_) (fun c1 => ?_)
  · replace hm := ite_f c1 hm
    refine lv_iload_n hx hb dX10_answerAt_10 rfl (lv_at hl 0 rfl) ?_
    obtain rfl := Option.some.inj hm
    subst hQ
    exact W.iret hx hb hr (fun t ht hW => ⟨⟨_, (), rfl, rfl, kb_h hP ht⟩, hS.F ht⟩) hS.2.2 dX10_answerAt_11
  · replace hm := ite_t c1 hm
    refine lv_bipush (v := (-9 : Int32)) hx hb dX10_answerAt_5 (by decide) ?_
    refine lv_goto (tgt := 11) hx hb dX10_answerAt_7 (by decide) ?_
    obtain rfl := Option.some.inj hm
    subst hQ
    exact W.iret hx hb hr (fun t ht hW => ⟨⟨_, (), rfl, rfl, kb_h hP ht⟩, hS.F ht⟩) hS.2.2 dX10_answerAt_11
set_option maxHeartbeats 4000000 in
set_option maxRecDepth 100000 in
theorem c_X10_isTold (l : Launch) (dC : Nat → ClassId) (dI : Nat → Nat → Nat) (cI cJ cZ cQ : ClassId) (t sz : Nat) (a_th : Nat) (a_p1 : Nat) (a_factOf : Nat) (n_p1 : Nat) (q_text : Value) (q_question : Value) (q_page : Value) (q_book : Value) (q_bookSeed : Value) (q_kept : Value) (q_isKept : Value) (q_toldSimple : Value) (q_toldDay : Value) (q_toldYes : Value) (q_yesOf : Value) (q_noOf : Value) (q_stack : Value) (q_one : Value) (q_two : Value) (q_three : Value) (v_thrown : Int32) (v_textSize : Int32) (v_place : Int32) (v_questionSize : Int32) (v_facts : Int32) (v_isSo : Int32) (v_common : Int32) (v_readFacts : Int32) (v_readSo : Int32) (v_readCommon : Int32) (v_readDay : Int32) (v_seed : Int64) (v_acts : Int32) (v_told : Int32) (v_p1 : (Nat → Int32)) (v_factOf : (Nat → Int32)) (p_2 : Int32) (o : Int32) (hm : m_X10_isTold p_2 n_p1 v_p1 v_factOf = some o) : Met l yX10_isTold wsX10_isTold { frames := 1, cells := 0, slots := 0, locals := 25 } (va_Pc [.ref a_th, .ref a_p1, .int p_2] (cP (dC, dI) (kT cI cJ cZ cQ) t sz [oX10 a_th (.int v_thrown) q_text (.int v_textSize) (.int v_place) q_question (.int v_questionSize) (.int v_facts) (.int v_isSo) (.int v_common) (.int v_readFacts) (.int v_readSo) (.int v_readCommon) (.int v_readDay) q_page (.long v_seed) q_book q_bookSeed (.int v_acts) q_kept q_isKept (.int v_told) q_toldSimple q_toldDay q_toldYes q_yesOf q_noOf (.ref a_factOf) q_stack q_one q_two q_three, aI cI a_p1 n_p1 v_p1, aI cI a_factOf 5 v_factOf])) (cQi (dC, dI) (va_A [oX10 a_th (.int v_thrown) q_text (.int v_textSize) (.int v_place) q_question (.int v_questionSize) (.int v_facts) (.int v_isSo) (.int v_common) (.int v_readFacts) (.int v_readSo) (.int v_readCommon) (.int v_readDay) q_page (.long v_seed) q_book q_bookSeed (.int v_acts) q_kept q_isKept (.int v_told) q_toldSimple q_toldDay q_toldYes q_yesOf q_noOf (.ref a_factOf) q_stack q_one q_two q_three, aI cI a_p1 n_p1 v_p1, aI cI a_factOf 5 v_factOf] sz) o [oX10 a_th (.int v_thrown) q_text (.int v_textSize) (.int v_place) q_question (.int v_questionSize) (.int v_facts) (.int v_isSo) (.int v_common) (.int v_readFacts) (.int v_readSo) (.int v_readCommon) (.int v_readDay) q_page (.long v_seed) q_book q_bookSeed (.int v_acts) q_kept q_isKept (.int v_told) q_toldSimple q_toldDay q_toldYes q_yesOf q_noOf (.ref a_factOf) q_stack q_one q_two q_three, aI cI a_p1 n_p1 v_p1, aI cI a_factOf 5 v_factOf]) 0 0 (va_A [oX10 a_th (.int v_thrown) q_text (.int v_textSize) (.int v_place) q_question (.int v_questionSize) (.int v_facts) (.int v_isSo) (.int v_common) (.int v_readFacts) (.int v_readSo) (.int v_readCommon) (.int v_readDay) q_page (.long v_seed) q_book q_bookSeed (.int v_acts) q_kept q_isKept (.int v_told) q_toldSimple q_toldDay q_toldYes q_yesOf q_noOf (.ref a_factOf) q_stack q_one q_two q_three, aI cI a_p1 n_p1 v_p1, aI cI a_factOf 5 v_factOf] sz) := by
  refine Met.ofW (cc := cX10_isTold) (maxL := 4) (ret := (some .boolean)) (by decide) rfl ?_
  intro p e s m args below meth c s₁ B hml hv
  obtain ⟨rfl, hsz, hP, hK, hD0, hG⟩ := hv
  have hx := B.exec
  have hb := B.bytes
  have hr := B.returns
  have hts := atoms_spec (ws := wsX10_isTold) B.pre
  have hown : s.vm.findClass RX10 = some m.cls := findClass_of_methodNamed B.named
  have hlocks := B.notSynchronized
  subst hsz
  have hD := hD0.self (sz := s.heap.size)
  generalize hAe : va_A [oX10 a_th (.int v_thrown) q_text (.int v_textSize) (.int v_place) q_question (.int v_questionSize) (.int v_facts) (.int v_isSo) (.int v_common) (.int v_readFacts) (.int v_readSo) (.int v_readCommon) (.int v_readDay) q_page (.long v_seed) q_book q_bookSeed (.int v_acts) q_kept q_isKept (.int v_told) q_toldSimple q_toldDay q_toldYes q_yesOf q_noOf (.ref a_factOf) q_stack q_one q_two q_three, aI cI a_p1 n_p1 v_p1, aI cI a_factOf 5 v_factOf] s.heap.size = A at hD hG ⊢
  have hA : ∀ q : Nat, s.heap.size ≤ q → A q := fun q h => by rw [← hAe]; exact Or.inr h
  have hS : va_S A s.heap s.heap [] := va_S.rf
  have hl := lv_entry ([.ref a_th, .ref a_p1, .int p_2]) (n := 4) (Nat.le_of_ble_eq_true rfl)
  rw [lg_entry_eq]
  generalize (lg_sl ([.ref a_th, .ref a_p1, .int p_2]) ++ List.replicate (4 - (lg_sl ([.ref a_th, .ref a_p1, .int p_2])).length) Slot.unset).toArray = ls at hl ⊢
  have hl : lv_has ls 4 [(0, .ref a_th), (1, .ref a_p1), (2, .int p_2)] := hl
  have iX10 : ∀ w ∈ wsX100, w ∈ wsX10_isTold := fun _ h => List.mem_cons_of_mem _ (List.mem_append_right _ h)
  refine kb_gen (fun Q hQ => ?_)
  unfold m_X10_isTold at hm
  refine lv_iload_n hx hb dX10_isTold_0 rfl (lv_at hl 2 rfl) ?_
  refine lv_iconst (v := (5 : Int32)) hx hb dX10_isTold_1 (by decide) ?_
  refine lv_icmp_ge (tgt := 22) hx hb dX10_isTold_2 (by decide) (fun c1 => ?_) (fun c1 => ?_)
  · replace hm := ite_t c1 hm
    refine lv_aload_n hx hb dX10_isTold_22 rfl (lv_at hl 1 rfl) ?_
    obtain ⟨r2, ho3, hm⟩ := bd1_s hm
    refine kb_calli (Rv := r2) (va_runS (As := [.ref a_p1]) (rest := []) ⟨hx, hb, hml, hown, hts⟩ (c_X10_daysOf l dC dI cI cJ cZ cQ t s.heap.size a_p1 n_p1 v_p1 (r2) ho3) (va_cwS 1 hts gX10_isTold_X10_daysOf rfl rfl rfl (by decide +kernel) ⟨(Nat.le_of_ble_eq_true rfl), (Nat.le_of_ble_eq_true rfl)⟩) (kb_pre hK hG hP (kb_D hD rfl) hS hA [1] rfl (by decide)) rfl rfl hl.1 rfl (lv_room (Nat.le_of_ble_eq_true rfl)) dX10_isTold_23 ⟨Nat.zero_le _, Nat.zero_le _⟩) hP (kb_D hD rfl) hS hA [1] rfl [(false, 0), (true, 0), (false, 2)] (w2 := [oX10 a_th (.int v_thrown) q_text (.int v_textSize) (.int v_place) q_question (.int v_questionSize) (.int v_facts) (.int v_isSo) (.int v_common) (.int v_readFacts) (.int v_readSo) (.int v_readCommon) (.int v_readDay) q_page (.long v_seed) q_book q_bookSeed (.int v_acts) q_kept q_isKept (.int v_told) q_toldSimple q_toldDay q_toldYes q_yesOf q_noOf (.ref a_factOf) q_stack q_one q_two q_three, aI cI a_p1 n_p1 v_p1, aI cI a_factOf 5 v_factOf]) rfl (by decide) (fun H locs hP hS => ?_)
    refine lv_istore_n (lv' := [(3, .int r2), (0, .ref a_th), (1, .ref a_p1), (2, .int p_2)]) hx hb dX10_isTold_26 rfl hl (by decide) rfl (fun ls hl => ?_)
    refine lv_iload_n hx hb dX10_isTold_27 rfl (lv_at hl 0 rfl) ?_
    refine lv_iload_n hx hb dX10_isTold_28 rfl (lv_at hl 0 rfl) ?_
    refine lv_iconst (v := (1 : Int32)) hx hb dX10_isTold_29 (by decide) ?_
    refine lv_isub hx hb dX10_isTold_30 ?_
    refine lv_iand hx hb dX10_isTold_31 ?_
    refine lv_if_ne (tgt := 39) hx hb dX10_isTold_32 (by decide) (fun c4 => ?_) (fun c4 => ?_)
    · replace hm := ite_f c4 hm
      refine lv_iconst (v := (0 : Int32)) hx hb dX10_isTold_39 (by decide) ?_
      obtain rfl := Option.some.inj hm
      subst hQ
      exact W.zret hx hb hr rfl (fun t ht hW => ⟨⟨_, (), rfl, rfl, kb_h hP ht⟩, hS.F ht⟩) hS.2.2 dX10_isTold_40
    · replace hm := ite_t c4 hm
      refine lv_iconst (v := (1 : Int32)) hx hb dX10_isTold_35 (by decide) ?_
      refine lv_goto (tgt := 40) hx hb dX10_isTold_36 (by decide) ?_
      obtain rfl := Option.some.inj hm
      subst hQ
      exact W.zret hx hb hr rfl (fun t ht hW => ⟨⟨_, (), rfl, rfl, kb_h hP ht⟩, hS.F ht⟩) hS.2.2 dX10_isTold_40
  · replace hm := ite_f c1 hm
    refine lv_aload_n hx hb dX10_isTold_5 rfl (lv_at hl 0 rfl) ?_
    refine lv_aload_n hx hb dX10_isTold_6 rfl (lv_at hl 1 rfl) ?_
    refine lv_iload_n hx hb dX10_isTold_7 rfl (lv_at hl 2 rfl) ?_
    obtain ⟨r5, ho6, hm⟩ := bd1_s hm
    refine kb_calli (Rv := r5) (va_runV (As := [.ref a_p1, .int p_2]) (rest := []) ⟨hx, hb, hml, hown, hts⟩ (c_X10_tellsFact l dC dI cI cJ cZ cQ t s.heap.size a_th a_p1 a_factOf n_p1 q_text q_question q_page q_book q_bookSeed q_kept q_isKept q_toldSimple q_toldDay q_toldYes q_yesOf q_noOf q_stack q_one q_two q_three v_thrown v_textSize v_place v_questionSize v_facts v_isSo v_common v_readFacts v_readSo v_readCommon v_readDay v_seed v_acts v_told v_p1 v_factOf p_2 (r5) ho6) (cwV 2 hts gX10_isTold_X10_tellsFact rfl rfl rfl (by decide +kernel) ⟨(Nat.le_of_ble_eq_true rfl), (Nat.le_of_ble_eq_true rfl)⟩) ⟨(kb_pre hK hG hP (kb_D hD rfl) hS hA [0, 1, 2] rfl (by decide)).1, (va_recv hK hP (ci := 8) (q0 := 0) rfl rfl), (kb_pre hK hG hP (kb_D hD rfl) hS hA [0, 1, 2] rfl (by decide)).2⟩ rfl rfl hl.1 rfl (lv_room (Nat.le_of_ble_eq_true rfl)) dX10_isTold_8 ⟨Nat.zero_le _, Nat.zero_le _⟩) hP (kb_D hD rfl) hS hA [0, 1, 2] rfl [(true, 0), (true, 1), (true, 2)] (w2 := [oX10 a_th (.int v_thrown) q_text (.int v_textSize) (.int v_place) q_question (.int v_questionSize) (.int v_facts) (.int v_isSo) (.int v_common) (.int v_readFacts) (.int v_readSo) (.int v_readCommon) (.int v_readDay) q_page (.long v_seed) q_book q_bookSeed (.int v_acts) q_kept q_isKept (.int v_told) q_toldSimple q_toldDay q_toldYes q_yesOf q_noOf (.ref a_factOf) q_stack q_one q_two q_three, aI cI a_p1 n_p1 v_p1, aI cI a_factOf 5 v_factOf]) rfl (by decide) (fun H locs hP hS => ?_)
    refine lv_bipush (v := (-9 : Int32)) hx hb dX10_isTold_11 (by decide) ?_
    refine lv_icmp_eq (tgt := 20) hx hb dX10_isTold_13 (by decide) (fun c7 => ?_) (fun c7 => ?_)
    · replace hm := ite_t c7 hm
      refine lv_iconst (v := (0 : Int32)) hx hb dX10_isTold_20 (by decide) ?_
      obtain rfl := Option.some.inj hm
      subst hQ
      exact W.zret hx hb hr rfl (fun t ht hW => ⟨⟨_, (), rfl, rfl, kb_h hP ht⟩, hS.F ht⟩) hS.2.2 dX10_isTold_21
    · replace hm := ite_f c7 hm
      refine lv_iconst (v := (1 : Int32)) hx hb dX10_isTold_16 (by decide) ?_
      refine lv_goto (tgt := 21) hx hb dX10_isTold_17 (by decide) ?_
      obtain rfl := Option.some.inj hm
      subst hQ
      exact W.zret hx hb hr rfl (fun t ht hW => ⟨⟨_, (), rfl, rfl, kb_h hP ht⟩, hS.F ht⟩) hS.2.2 dX10_isTold_21
set_option maxHeartbeats 4000000 in
set_option maxRecDepth 100000 in
theorem c_X10_doesOne (l : Launch) (dC : Nat → ClassId) (dI : Nat → Nat → Nat) (cI cJ cZ cQ : ClassId) (t sz : Nat) (a_th : Nat) (a_p1 : Nat) (a_question : Nat) (a_stack : Nat) (a_yesOf : Nat) (a_noOf : Nat) (a_three : Nat) (a_factOf : Nat) (n_p1 : Nat) (q_text : Value) (q_page : Value) (q_book : Value) (q_bookSeed : Value) (q_kept : Value) (q_isKept : Value) (q_toldSimple : Value) (q_toldDay : Value) (q_toldYes : Value) (q_one : Value) (q_two : Value) (v_thrown : Int32) (v_textSize : Int32) (v_place : Int32) (v_questionSize : Int32) (v_facts : Int32) (v_isSo : Int32) (v_common : Int32) (v_readFacts : Int32) (v_readSo : Int32) (v_readCommon : Int32) (v_readDay : Int32) (v_seed : Int64) (v_acts : Int32) (v_told : Int32) (v_p1 : (Nat → Int32)) (v_question : (Nat → Int32)) (v_stack : (Nat → Int32)) (v_yesOf : (Nat → Int32)) (v_noOf : (Nat → Int32)) (v_three : (Nat → Int32)) (v_factOf : (Nat → Int32)) (p_2 : Int32) (p_3 : Int32) (p_4 : Int32) (o : Int32 × (Nat → Int32) × (Nat → Int32)) (hm : m_X10_doesOne p_2 p_3 p_4 n_p1 v_questionSize v_facts v_p1 v_question v_stack v_yesOf v_noOf v_three v_factOf = some o) : Met l yX10_doesOne wsX10_doesOne { frames := 5, cells := 0, slots := 0, locals := 132 } (va_Pc [.ref a_th, .ref a_p1, .int p_2, .int p_3, .int p_4] (cP (dC, dI) (kT cI cJ cZ cQ) t sz [oX10 a_th (.int v_thrown) q_text (.int v_textSize) (.int v_place) (.ref a_question) (.int v_questionSize) (.int v_facts) (.int v_isSo) (.int v_common) (.int v_readFacts) (.int v_readSo) (.int v_readCommon) (.int v_readDay) q_page (.long v_seed) q_book q_bookSeed (.int v_acts) q_kept q_isKept (.int v_told) q_toldSimple q_toldDay q_toldYes (.ref a_yesOf) (.ref a_noOf) (.ref a_factOf) (.ref a_stack) q_one q_two (.ref a_three), aI cI a_p1 n_p1 v_p1, aI cI a_question 16 v_question, aI cZ a_stack 17 v_stack, aI cI a_yesOf 931 v_yesOf, aI cI a_noOf 931 v_noOf, aI cI a_three 7 v_three, aI cI a_factOf 5 v_factOf])) (cQi (dC, dI) (va_A [oX10 a_th (.int v_thrown) q_text (.int v_textSize) (.int v_place) (.ref a_question) (.int v_questionSize) (.int v_facts) (.int v_isSo) (.int v_common) (.int v_readFacts) (.int v_readSo) (.int v_readCommon) (.int v_readDay) q_page (.long v_seed) q_book q_bookSeed (.int v_acts) q_kept q_isKept (.int v_told) q_toldSimple q_toldDay q_toldYes (.ref a_yesOf) (.ref a_noOf) (.ref a_factOf) (.ref a_stack) q_one q_two (.ref a_three), aI cI a_p1 n_p1 v_p1, aI cI a_question 16 v_question, aI cZ a_stack 17 v_stack, aI cI a_yesOf 931 v_yesOf, aI cI a_noOf 931 v_noOf, aI cI a_three 7 v_three, aI cI a_factOf 5 v_factOf] sz) o.1 [oX10 a_th (.int v_thrown) q_text (.int v_textSize) (.int v_place) (.ref a_question) (.int v_questionSize) (.int v_facts) (.int v_isSo) (.int v_common) (.int v_readFacts) (.int v_readSo) (.int v_readCommon) (.int v_readDay) q_page (.long v_seed) q_book q_bookSeed (.int v_acts) q_kept q_isKept (.int v_told) q_toldSimple q_toldDay q_toldYes (.ref a_yesOf) (.ref a_noOf) (.ref a_factOf) (.ref a_stack) q_one q_two (.ref a_three), aI cI a_p1 n_p1 v_p1, aI cI a_question 16 v_question, aI cZ a_stack 17 (o.2.1), aI cI a_yesOf 931 v_yesOf, aI cI a_noOf 931 v_noOf, aI cI a_three 7 (o.2.2), aI cI a_factOf 5 v_factOf]) 0 0 (va_A [oX10 a_th (.int v_thrown) q_text (.int v_textSize) (.int v_place) (.ref a_question) (.int v_questionSize) (.int v_facts) (.int v_isSo) (.int v_common) (.int v_readFacts) (.int v_readSo) (.int v_readCommon) (.int v_readDay) q_page (.long v_seed) q_book q_bookSeed (.int v_acts) q_kept q_isKept (.int v_told) q_toldSimple q_toldDay q_toldYes (.ref a_yesOf) (.ref a_noOf) (.ref a_factOf) (.ref a_stack) q_one q_two (.ref a_three), aI cI a_p1 n_p1 v_p1, aI cI a_question 16 v_question, aI cZ a_stack 17 v_stack, aI cI a_yesOf 931 v_yesOf, aI cI a_noOf 931 v_noOf, aI cI a_three 7 v_three, aI cI a_factOf 5 v_factOf] sz) := by
  refine Met.ofW (cc := cX10_doesOne) (maxL := 7) (ret := (some .boolean)) (by decide) rfl ?_
  intro p e s m args below meth c s₁ B hml hv
  obtain ⟨rfl, hsz, hP, hK, hD0, hG⟩ := hv
  have hx := B.exec
  have hb := B.bytes
  have hr := B.returns
  have hts := atoms_spec (ws := wsX10_doesOne) B.pre
  have hown : s.vm.findClass RX10 = some m.cls := findClass_of_methodNamed B.named
  have hlocks := B.notSynchronized
  subst hsz
  have hD := hD0.self (sz := s.heap.size)
  generalize hAe : va_A [oX10 a_th (.int v_thrown) q_text (.int v_textSize) (.int v_place) (.ref a_question) (.int v_questionSize) (.int v_facts) (.int v_isSo) (.int v_common) (.int v_readFacts) (.int v_readSo) (.int v_readCommon) (.int v_readDay) q_page (.long v_seed) q_book q_bookSeed (.int v_acts) q_kept q_isKept (.int v_told) q_toldSimple q_toldDay q_toldYes (.ref a_yesOf) (.ref a_noOf) (.ref a_factOf) (.ref a_stack) q_one q_two (.ref a_three), aI cI a_p1 n_p1 v_p1, aI cI a_question 16 v_question, aI cZ a_stack 17 v_stack, aI cI a_yesOf 931 v_yesOf, aI cI a_noOf 931 v_noOf, aI cI a_three 7 v_three, aI cI a_factOf 5 v_factOf] s.heap.size = A at hD hG ⊢
  have hA : ∀ q : Nat, s.heap.size ≤ q → A q := fun q h => by rw [← hAe]; exact Or.inr h
  have hS : va_S A s.heap s.heap [] := va_S.rf
  have hl := lv_entry ([.ref a_th, .ref a_p1, .int p_2, .int p_3, .int p_4]) (n := 7) (Nat.le_of_ble_eq_true rfl)
  rw [lg_entry_eq]
  generalize (lg_sl ([.ref a_th, .ref a_p1, .int p_2, .int p_3, .int p_4]) ++ List.replicate (7 - (lg_sl ([.ref a_th, .ref a_p1, .int p_2, .int p_3, .int p_4])).length) Slot.unset).toArray = ls at hl ⊢
  have hl : lv_has ls 7 [(0, .ref a_th), (1, .ref a_p1), (2, .int p_2), (3, .int p_3), (4, .int p_4)] := hl
  have iX10 : ∀ w ∈ wsX100, w ∈ wsX10_doesOne := fun _ h => List.mem_cons_of_mem _ (List.mem_append_right _ h)
  have f60 := hts (.fieldLink RX10 60 "TrueOnceWeekModel" "three" "[I") (by decide +kernel)
  refine kb_gen (fun Q hQ => ?_)
  unfold m_X10_doesOne at hm
  refine lv_iconst (v := (1 : Int32)) hx hb dX10_doesOne_0 (by decide) ?_
  refine lv_istore (lv' := [(5, .int (1 : Int32)), (0, .ref a_th), (1, .ref a_p1), (2, .int p_2), (3, .int p_3), (4, .int p_4)]) hx hb dX10_doesOne_1 hl (by decide) rfl (fun ls hl => ?_)
  refine lv_iconst (v := (0 : Int32)) hx hb dX10_doesOne_3 (by decide) ?_
  refine lv_istore (lv' := [(6, .int (0 : Int32)), (5, .int (1 : Int32)), (0, .ref a_th), (1, .ref a_p1), (2, .int p_2), (3, .int p_3), (4, .int p_4)]) hx hb dX10_doesOne_4 hl (by decide) rfl (fun ls hl => ?_)
  have lp6 : ∀ (n6 : Nat) (x1 : Int32) (x2 : Int32) (w3 : (Nat → Int32)) (w4 : (Nat → Int32)) (k6 : Int32 → (Nat → Int32) → (Nat → Int32) → Option (Int32 × (Nat → Int32) × (Nat → Int32))) (H : Heap) (locs : List Loc) (ls : Array Slot), L_X10_doesOne_6 v_questionSize v_facts v_p1 v_question v_yesOf v_noOf v_factOf p_2 p_3 p_4 n_p1 n6 x1 x2 w3 w4 k6 = some o → (∀ (x5 : Int32) (w6 : (Nat → Int32)) (w7 : (Nat → Int32)) (H : Heap) (locs : List Loc) (ls : Array Slot), k6 x5 w6 w7 = some o → va_P (dC, dI) vwCl [oX10 a_th (.int v_thrown) q_text (.int v_textSize) (.int v_place) (.ref a_question) (.int v_questionSize) (.int v_facts) (.int v_isSo) (.int v_common) (.int v_readFacts) (.int v_readSo) (.int v_readCommon) (.int v_readDay) q_page (.long v_seed) q_book q_bookSeed (.int v_acts) q_kept q_isKept (.int v_told) q_toldSimple q_toldDay q_toldYes (.ref a_yesOf) (.ref a_noOf) (.ref a_factOf) (.ref a_stack) q_one q_two (.ref a_three), aI cI a_p1 n_p1 v_p1, aI cI a_question 16 v_question, aI cZ a_stack 17 w6, aI cI a_yesOf 931 v_yesOf, aI cI a_noOf 931 v_noOf, aI cI a_three 7 w7, aI cI a_factOf 5 v_factOf] H → va_S A s.heap H locs → lv_has ls 7 [(5, .int x5)] → W p l e (headSpec wsX10_doesOne { frames := 5, cells := 0, slots := 0, locals := 132 }).room s m [.ref a_th, .ref a_p1, .int p_2, .int p_3, .int p_4].toArray below meth c H locs 0 0 Q (F0 m 51 ls [])) → va_P (dC, dI) vwCl [oX10 a_th (.int v_thrown) q_text (.int v_textSize) (.int v_place) (.ref a_question) (.int v_questionSize) (.int v_facts) (.int v_isSo) (.int v_common) (.int v_readFacts) (.int v_readSo) (.int v_readCommon) (.int v_readDay) q_page (.long v_seed) q_book q_bookSeed (.int v_acts) q_kept q_isKept (.int v_told) q_toldSimple q_toldDay q_toldYes (.ref a_yesOf) (.ref a_noOf) (.ref a_factOf) (.ref a_stack) q_one q_two (.ref a_three), aI cI a_p1 n_p1 v_p1, aI cI a_question 16 v_question, aI cZ a_stack 17 w3, aI cI a_yesOf 931 v_yesOf, aI cI a_noOf 931 v_noOf, aI cI a_three 7 w4, aI cI a_factOf 5 v_factOf] H → va_S A s.heap H locs → lv_has ls 7 [(0, .ref a_th), (1, .ref a_p1), (2, .int p_2), (3, .int p_3), (4, .int p_4), (5, .int x1), (6, .int x2)] → W p l e (headSpec wsX10_doesOne { frames := 5, cells := 0, slots := 0, locals := 132 }).room s m [.ref a_th, .ref a_p1, .int p_2, .int p_3, .int p_4].toArray below meth c H locs 0 0 Q (F0 m 6 ls []) := by
    intro n6
    induction n6 with
    | zero =>
      intro x1 x2 w3 w4 k6 H locs ls hm
      cases (show (none : Option (Int32 × (Nat → Int32) × (Nat → Int32))) = some o from hm)
    | succ n6 ih6 =>
      intro x1 x2 w3 w4 k6 H locs ls hm hk6 hP hS hl
      rw [L_X10_doesOne_6.eq_2] at hm
      refine lv_iload hx hb dX10_doesOne_6 (lv_at hl 6 rfl) ?_
      refine lv_iconst (v := (3 : Int32)) hx hb dX10_doesOne_8 (by decide) ?_
      refine lv_icmp_ge (tgt := 51) hx hb dX10_doesOne_9 (by decide) (fun c8 => ?_) (fun c8 => ?_)
      · replace hm := ite_t c8 hm
        exact hk6 x1 w3 w4 _ _ _ hm hP hS (lv_sub hl [5] rfl)
      · replace hm := ite_f c8 hm
        refine lv_iload hx hb dX10_doesOne_12 (lv_at hl 5 rfl) ?_
        refine lv_if_eq (tgt := 51) hx hb dX10_doesOne_14 (by decide) (fun c9 => ?_) (fun c9 => ?_)
        · replace hm := ite_t c9 hm
          exact hk6 x1 w3 w4 _ _ _ hm hP hS (lv_sub hl [5] rfl)
        · replace hm := ite_f c9 hm
          refine lv_aload_n hx hb dX10_doesOne_17 rfl (lv_at hl 0 rfl) ?_
          refine lv_aload_n hx hb dX10_doesOne_18 rfl (lv_at hl 1 rfl) ?_
          refine lv_iload_n hx hb dX10_doesOne_19 rfl (lv_at hl 2 rfl) ?_
          refine lv_iload_n hx hb dX10_doesOne_20 rfl (lv_at hl 3 rfl) ?_
          refine lv_iload hx hb dX10_doesOne_21 (lv_at hl 6 rfl) ?_
          obtain ⟨r10, ho11, hm⟩ := bd1_s hm
          refine kb_calli (Rv := r10) (va_runS (As := [.int x2]) (rest := [.int p_3, .int p_2, .ref a_p1, .ref a_th]) ⟨hx, hb, hml, hown, hts⟩ (c_X10_answerAt l dC dI cI cJ cZ cQ t H.size x2 (r10) ho11) (va_cwS 1 hts gX10_doesOne_X10_answerAt rfl rfl rfl (by decide +kernel) ⟨(Nat.le_of_ble_eq_true rfl), (Nat.le_of_ble_eq_true rfl)⟩) (kb_pre hK hG hP (kb_D hD rfl) hS hA [] rfl (by decide)) rfl rfl hl.1 rfl (lv_room (Nat.le_of_ble_eq_true rfl)) dX10_doesOne_23 ⟨Nat.zero_le _, Nat.zero_le _⟩) hP (kb_D hD rfl) hS hA [] rfl [(false, 0), (false, 1), (false, 2), (false, 3), (false, 4), (false, 5), (false, 6), (false, 7)] (w2 := [oX10 a_th (.int v_thrown) q_text (.int v_textSize) (.int v_place) (.ref a_question) (.int v_questionSize) (.int v_facts) (.int v_isSo) (.int v_common) (.int v_readFacts) (.int v_readSo) (.int v_readCommon) (.int v_readDay) q_page (.long v_seed) q_book q_bookSeed (.int v_acts) q_kept q_isKept (.int v_told) q_toldSimple q_toldDay q_toldYes (.ref a_yesOf) (.ref a_noOf) (.ref a_factOf) (.ref a_stack) q_one q_two (.ref a_three), aI cI a_p1 n_p1 v_p1, aI cI a_question 16 v_question, aI cZ a_stack 17 w3, aI cI a_yesOf 931 v_yesOf, aI cI a_noOf 931 v_noOf, aI cI a_three 7 w4, aI cI a_factOf 5 v_factOf]) rfl (by decide) (fun H locs hP hS => ?_)
          refine lv_aload_n hx hb dX10_doesOne_26 rfl (lv_at hl 0 rfl) ?_
          refine va_get (D := (dC, dI)) (ci := 8) (v := .ref a_three) (C := RX10) (T := TX10) (N := 31) hx hb hts iX10 hown hK hP 0 rfl rfl 30 (by decide) f60 (fun _ h9 => h9) rfl dX10_doesOne_27 ?_
          obtain ⟨w12, w13, ho14, hm⟩ := bd2_s hm
          refine kb_callv (va_runV (As := [.ref a_p1, .int p_2, .int p_3, .int r10, .ref a_three]) (rest := []) ⟨hx, hb, hml, hown, hts⟩ (c_X10_part l dC dI cI cJ cZ cQ t H.size a_th a_p1 a_question a_stack a_yesOf a_noOf a_three n_p1 7 q_text q_page q_book q_bookSeed q_kept q_isKept q_toldSimple q_toldDay q_toldYes (.ref a_factOf) q_one q_two (.ref a_three) v_thrown v_textSize v_place v_questionSize v_facts v_isSo v_common v_readFacts v_readSo v_readCommon v_readDay v_seed v_acts v_told v_p1 v_question w3 v_yesOf v_noOf w4 p_2 p_3 r10 (w12, w13) ho14) (cwV 5 hts gX10_doesOne_X10_part rfl rfl rfl (by decide +kernel) ⟨(Nat.le_of_ble_eq_true rfl), (Nat.le_of_ble_eq_true rfl)⟩) ⟨(kb_pre hK hG hP (kb_D hD rfl) hS hA [0, 1, 2, 3, 4, 5, 6] rfl (by decide)).1, (va_recv hK hP (ci := 8) (q0 := 0) rfl rfl), (kb_pre hK hG hP (kb_D hD rfl) hS hA [0, 1, 2, 3, 4, 5, 6] rfl (by decide)).2⟩ rfl rfl hl.1 rfl (lv_room (Nat.le_of_ble_eq_true rfl)) dX10_doesOne_30 ⟨Nat.zero_le _, Nat.zero_le _⟩) hP (kb_D hD rfl) hS hA [0, 1, 2, 3, 4, 5, 6] rfl [(true, 0), (true, 1), (true, 2), (true, 3), (true, 4), (true, 5), (true, 6), (false, 7)] (w2 := [oX10 a_th (.int v_thrown) q_text (.int v_textSize) (.int v_place) (.ref a_question) (.int v_questionSize) (.int v_facts) (.int v_isSo) (.int v_common) (.int v_readFacts) (.int v_readSo) (.int v_readCommon) (.int v_readDay) q_page (.long v_seed) q_book q_bookSeed (.int v_acts) q_kept q_isKept (.int v_told) q_toldSimple q_toldDay q_toldYes (.ref a_yesOf) (.ref a_noOf) (.ref a_factOf) (.ref a_stack) q_one q_two (.ref a_three), aI cI a_p1 n_p1 v_p1, aI cI a_question 16 v_question, aI cZ a_stack 17 w12, aI cI a_yesOf 931 v_yesOf, aI cI a_noOf 931 v_noOf, aI cI a_three 7 w13, aI cI a_factOf 5 v_factOf]) rfl (by decide) (fun H locs hP hS => ?_)
          refine lv_aload_n hx hb dX10_doesOne_33 rfl (lv_at hl 0 rfl) ?_
          refine lv_aload_n hx hb dX10_doesOne_34 rfl (lv_at hl 0 rfl) ?_
          refine va_get (D := (dC, dI)) (ci := 8) (v := .ref a_three) (C := RX10) (T := TX10) (N := 31) hx hb hts iX10 hown hK hP 0 rfl rfl 30 (by decide) f60 (fun _ h9 => h9) rfl dX10_doesOne_35 ?_
          refine lv_iload hx hb dX10_doesOne_38 (lv_at hl 4 rfl) ?_
          obtain ⟨r15, ho16, hm⟩ := bd1_s hm
          refine kb_calli (Rv := r15) (va_runV (As := [.ref a_three, .int p_4]) (rest := []) ⟨hx, hb, hml, hown, hts⟩ (c_X10_isTold l dC dI cI cJ cZ cQ t H.size a_th a_three a_factOf 7 q_text (.ref a_question) q_page q_book q_bookSeed q_kept q_isKept q_toldSimple q_toldDay q_toldYes (.ref a_yesOf) (.ref a_noOf) (.ref a_stack) q_one q_two (.ref a_three) v_thrown v_textSize v_place v_questionSize v_facts v_isSo v_common v_readFacts v_readSo v_readCommon v_readDay v_seed v_acts v_told w13 v_factOf p_4 (r15) ho16) (cwV 2 hts gX10_doesOne_X10_isTold rfl rfl rfl (by decide +kernel) ⟨(Nat.le_of_ble_eq_true rfl), (Nat.le_of_ble_eq_true rfl)⟩) ⟨(kb_pre hK hG hP (kb_D hD rfl) hS hA [0, 6, 7] rfl (by decide)).1, (va_recv hK hP (ci := 8) (q0 := 0) rfl rfl), (kb_pre hK hG hP (kb_D hD rfl) hS hA [0, 6, 7] rfl (by decide)).2⟩ rfl rfl hl.1 rfl (lv_room (Nat.le_of_ble_eq_true rfl)) dX10_doesOne_40 ⟨Nat.zero_le _, Nat.zero_le _⟩) hP (kb_D hD rfl) hS hA [0, 6, 7] rfl [(true, 0), (false, 1), (false, 2), (false, 3), (false, 4), (false, 5), (true, 1), (true, 2)] (w2 := [oX10 a_th (.int v_thrown) q_text (.int v_textSize) (.int v_place) (.ref a_question) (.int v_questionSize) (.int v_facts) (.int v_isSo) (.int v_common) (.int v_readFacts) (.int v_readSo) (.int v_readCommon) (.int v_readDay) q_page (.long v_seed) q_book q_bookSeed (.int v_acts) q_kept q_isKept (.int v_told) q_toldSimple q_toldDay q_toldYes (.ref a_yesOf) (.ref a_noOf) (.ref a_factOf) (.ref a_stack) q_one q_two (.ref a_three), aI cI a_p1 n_p1 v_p1, aI cI a_question 16 v_question, aI cZ a_stack 17 w12, aI cI a_yesOf 931 v_yesOf, aI cI a_noOf 931 v_noOf, aI cI a_three 7 w13, aI cI a_factOf 5 v_factOf]) rfl (by decide) (fun H locs hP hS => ?_)
          refine lv_istore (lv' := [(5, .int r15), (0, .ref a_th), (1, .ref a_p1), (2, .int p_2), (3, .int p_3), (4, .int p_4), (6, .int x2)]) hx hb dX10_doesOne_43 hl (by decide) rfl (fun ls hl => ?_)
          obtain ⟨x17, ex17⟩ : ∃ y : Int32, y = x2 + (1 : Int32) := ⟨_, rfl⟩
          replace hm := nm_t ex17 hm
          refine lv_iinc (v := x17) (lv' := [(6, .int x17), (5, .int r15), (0, .ref a_th), (1, .ref a_p1), (2, .int p_2), (3, .int p_3), (4, .int p_4)]) hx hb dX10_doesOne_45 hl (k := 6) rfl (by rw [ex17]; rfl) (by decide) rfl (fun ls hl => ?_)
          refine lv_goto (tgt := 6) hx hb dX10_doesOne_48 (by decide) ?_
          exact ih6 r15 x17 w12 w13 k6 _ _ _ hm hk6 hP hS (lv_sub hl [2, 3, 4, 5, 6, 1, 0] rfl)
  refine lp6 1024 (1 : Int32) (0 : Int32) v_stack v_three _ _ _ _ hm (fun x5 w6 w7 H locs ls hm hP hS hl => ?_) hP hS (lv_sub hl [2, 3, 4, 5, 6, 1, 0] rfl)
  refine lv_iload hx hb dX10_doesOne_51 (lv_at hl 0 rfl) ?_
  obtain ⟨h18, hm⟩ := gd_s hm
  obtain rfl := Option.some.inj hm
  subst hQ
  exact W.zret hx hb hr (zB_n h18) (fun t ht hW => ⟨⟨_, (), rfl, rfl, kb_h hP ht⟩, hS.F ht⟩) hS.2.2 dX10_doesOne_53
set_option maxHeartbeats 4000000 in
set_option maxRecDepth 100000 in
theorem c_X10_inOne (l : Launch) (dC : Nat → ClassId) (dI : Nat → Nat → Nat) (cI cJ cZ cQ : ClassId) (t sz : Nat) (a_th : Nat) (a_p1 : Nat) (a_factOf : Nat) (a_question : Nat) (a_stack : Nat) (a_yesOf : Nat) (a_noOf : Nat) (a_three : Nat) (n_p1 : Nat) (q_text : Value) (q_page : Value) (q_book : Value) (q_bookSeed : Value) (q_kept : Value) (q_isKept : Value) (q_toldSimple : Value) (q_toldDay : Value) (q_toldYes : Value) (q_one : Value) (q_two : Value) (v_thrown : Int32) (v_textSize : Int32) (v_place : Int32) (v_questionSize : Int32) (v_facts : Int32) (v_isSo : Int32) (v_common : Int32) (v_readFacts : Int32) (v_readSo : Int32) (v_readCommon : Int32) (v_readDay : Int32) (v_seed : Int64) (v_acts : Int32) (v_told : Int32) (v_p1 : (Nat → Int32)) (v_factOf : (Nat → Int32)) (v_question : (Nat → Int32)) (v_stack : (Nat → Int32)) (v_yesOf : (Nat → Int32)) (v_noOf : (Nat → Int32)) (v_three : (Nat → Int32)) (p_2 : Int32) (p_3 : Int32) (o : Int32 × (Nat → Int32) × (Nat → Int32)) (hm : m_X10_inOne p_2 p_3 n_p1 v_questionSize v_facts v_p1 v_factOf v_question v_stack v_yesOf v_noOf v_three = some o) : Met l yX10_inOne wsX10_inOne { frames := 6, cells := 0, slots := 0, locals := 158 } (va_Pc [.ref a_th, .ref a_p1, .int p_2, .int p_3] (cP (dC, dI) (kT cI cJ cZ cQ) t sz [oX10 a_th (.int v_thrown) q_text (.int v_textSize) (.int v_place) (.ref a_question) (.int v_questionSize) (.int v_facts) (.int v_isSo) (.int v_common) (.int v_readFacts) (.int v_readSo) (.int v_readCommon) (.int v_readDay) q_page (.long v_seed) q_book q_bookSeed (.int v_acts) q_kept q_isKept (.int v_told) q_toldSimple q_toldDay q_toldYes (.ref a_yesOf) (.ref a_noOf) (.ref a_factOf) (.ref a_stack) q_one q_two (.ref a_three), aI cI a_p1 n_p1 v_p1, aI cI a_factOf 5 v_factOf, aI cI a_question 16 v_question, aI cZ a_stack 17 v_stack, aI cI a_yesOf 931 v_yesOf, aI cI a_noOf 931 v_noOf, aI cI a_three 7 v_three])) (cQi (dC, dI) (va_A [oX10 a_th (.int v_thrown) q_text (.int v_textSize) (.int v_place) (.ref a_question) (.int v_questionSize) (.int v_facts) (.int v_isSo) (.int v_common) (.int v_readFacts) (.int v_readSo) (.int v_readCommon) (.int v_readDay) q_page (.long v_seed) q_book q_bookSeed (.int v_acts) q_kept q_isKept (.int v_told) q_toldSimple q_toldDay q_toldYes (.ref a_yesOf) (.ref a_noOf) (.ref a_factOf) (.ref a_stack) q_one q_two (.ref a_three), aI cI a_p1 n_p1 v_p1, aI cI a_factOf 5 v_factOf, aI cI a_question 16 v_question, aI cZ a_stack 17 v_stack, aI cI a_yesOf 931 v_yesOf, aI cI a_noOf 931 v_noOf, aI cI a_three 7 v_three] sz) o.1 [oX10 a_th (.int v_thrown) q_text (.int v_textSize) (.int v_place) (.ref a_question) (.int v_questionSize) (.int v_facts) (.int v_isSo) (.int v_common) (.int v_readFacts) (.int v_readSo) (.int v_readCommon) (.int v_readDay) q_page (.long v_seed) q_book q_bookSeed (.int v_acts) q_kept q_isKept (.int v_told) q_toldSimple q_toldDay q_toldYes (.ref a_yesOf) (.ref a_noOf) (.ref a_factOf) (.ref a_stack) q_one q_two (.ref a_three), aI cI a_p1 n_p1 v_p1, aI cI a_factOf 5 v_factOf, aI cI a_question 16 v_question, aI cZ a_stack 17 (o.2.1), aI cI a_yesOf 931 v_yesOf, aI cI a_noOf 931 v_noOf, aI cI a_three 7 (o.2.2)]) 0 0 (va_A [oX10 a_th (.int v_thrown) q_text (.int v_textSize) (.int v_place) (.ref a_question) (.int v_questionSize) (.int v_facts) (.int v_isSo) (.int v_common) (.int v_readFacts) (.int v_readSo) (.int v_readCommon) (.int v_readDay) q_page (.long v_seed) q_book q_bookSeed (.int v_acts) q_kept q_isKept (.int v_told) q_toldSimple q_toldDay q_toldYes (.ref a_yesOf) (.ref a_noOf) (.ref a_factOf) (.ref a_stack) q_one q_two (.ref a_three), aI cI a_p1 n_p1 v_p1, aI cI a_factOf 5 v_factOf, aI cI a_question 16 v_question, aI cZ a_stack 17 v_stack, aI cI a_yesOf 931 v_yesOf, aI cI a_noOf 931 v_noOf, aI cI a_three 7 v_three] sz) := by
  refine Met.ofW (cc := cX10_inOne) (maxL := 6) (ret := (some .boolean)) (by decide) rfl ?_
  intro p e s m args below meth c s₁ B hml hv
  obtain ⟨rfl, hsz, hP, hK, hD0, hG⟩ := hv
  have hx := B.exec
  have hb := B.bytes
  have hr := B.returns
  have hts := atoms_spec (ws := wsX10_inOne) B.pre
  have hown : s.vm.findClass RX10 = some m.cls := findClass_of_methodNamed B.named
  have hlocks := B.notSynchronized
  subst hsz
  have hD := hD0.self (sz := s.heap.size)
  generalize hAe : va_A [oX10 a_th (.int v_thrown) q_text (.int v_textSize) (.int v_place) (.ref a_question) (.int v_questionSize) (.int v_facts) (.int v_isSo) (.int v_common) (.int v_readFacts) (.int v_readSo) (.int v_readCommon) (.int v_readDay) q_page (.long v_seed) q_book q_bookSeed (.int v_acts) q_kept q_isKept (.int v_told) q_toldSimple q_toldDay q_toldYes (.ref a_yesOf) (.ref a_noOf) (.ref a_factOf) (.ref a_stack) q_one q_two (.ref a_three), aI cI a_p1 n_p1 v_p1, aI cI a_factOf 5 v_factOf, aI cI a_question 16 v_question, aI cZ a_stack 17 v_stack, aI cI a_yesOf 931 v_yesOf, aI cI a_noOf 931 v_noOf, aI cI a_three 7 v_three] s.heap.size = A at hD hG ⊢
  have hA : ∀ q : Nat, s.heap.size ≤ q → A q := fun q h => by rw [← hAe]; exact Or.inr h
  have hS : va_S A s.heap s.heap [] := va_S.rf
  have hl := lv_entry ([.ref a_th, .ref a_p1, .int p_2, .int p_3]) (n := 6) (Nat.le_of_ble_eq_true rfl)
  rw [lg_entry_eq]
  generalize (lg_sl ([.ref a_th, .ref a_p1, .int p_2, .int p_3]) ++ List.replicate (6 - (lg_sl ([.ref a_th, .ref a_p1, .int p_2, .int p_3])).length) Slot.unset).toArray = ls at hl ⊢
  have hl : lv_has ls 6 [(0, .ref a_th), (1, .ref a_p1), (2, .int p_2), (3, .int p_3)] := hl
  have iX10 : ∀ w ∈ wsX100, w ∈ wsX10_inOne := fun _ h => List.mem_cons_of_mem _ (List.mem_append_right _ h)
  refine kb_gen (fun Q hQ => ?_)
  unfold m_X10_inOne at hm
  refine lv_aload_n hx hb dX10_inOne_0 rfl (lv_at hl 0 rfl) ?_
  refine lv_aload_n hx hb dX10_inOne_1 rfl (lv_at hl 1 rfl) ?_
  refine lv_iload_n hx hb dX10_inOne_2 rfl (lv_at hl 3 rfl) ?_
  obtain ⟨r1, ho2, hm⟩ := bd1_s hm
  refine kb_calli (Rv := r1) (va_runV (As := [.ref a_p1, .int p_3]) (rest := []) ⟨hx, hb, hml, hown, hts⟩ (c_X10_isTold l dC dI cI cJ cZ cQ t s.heap.size a_th a_p1 a_factOf n_p1 q_text (.ref a_question) q_page q_book q_bookSeed q_kept q_isKept q_toldSimple q_toldDay q_toldYes (.ref a_yesOf) (.ref a_noOf) (.ref a_stack) q_one q_two (.ref a_three) v_thrown v_textSize v_place v_questionSize v_facts v_isSo v_common v_readFacts v_readSo v_readCommon v_readDay v_seed v_acts v_told v_p1 v_factOf p_3 (r1) ho2) (cwV 2 hts gX10_inOne_X10_isTold rfl rfl rfl (by decide +kernel) ⟨(Nat.le_of_ble_eq_true rfl), (Nat.le_of_ble_eq_true rfl)⟩) ⟨(kb_pre hK hG hP (kb_D hD rfl) hS hA [0, 1, 2] rfl (by decide)).1, (va_recv hK hP (ci := 8) (q0 := 0) rfl rfl), (kb_pre hK hG hP (kb_D hD rfl) hS hA [0, 1, 2] rfl (by decide)).2⟩ rfl rfl hl.1 rfl (lv_room (Nat.le_of_ble_eq_true rfl)) dX10_inOne_3 ⟨Nat.zero_le _, Nat.zero_le _⟩) hP (kb_D hD rfl) hS hA [0, 1, 2] rfl [(true, 0), (true, 1), (true, 2), (false, 3), (false, 4), (false, 5), (false, 6), (false, 7)] (w2 := [oX10 a_th (.int v_thrown) q_text (.int v_textSize) (.int v_place) (.ref a_question) (.int v_questionSize) (.int v_facts) (.int v_isSo) (.int v_common) (.int v_readFacts) (.int v_readSo) (.int v_readCommon) (.int v_readDay) q_page (.long v_seed) q_book q_bookSeed (.int v_acts) q_kept q_isKept (.int v_told) q_toldSimple q_toldDay q_toldYes (.ref a_yesOf) (.ref a_noOf) (.ref a_factOf) (.ref a_stack) q_one q_two (.ref a_three), aI cI a_p1 n_p1 v_p1, aI cI a_factOf 5 v_factOf, aI cI a_question 16 v_question, aI cZ a_stack 17 v_stack, aI cI a_yesOf 931 v_yesOf, aI cI a_noOf 931 v_noOf, aI cI a_three 7 v_three]) rfl (by decide) (fun H locs hP hS => ?_)
  refine lv_istore (lv' := [(4, .int r1), (0, .ref a_th), (1, .ref a_p1), (2, .int p_2), (3, .int p_3)]) hx hb dX10_inOne_6 hl (by decide) rfl (fun ls hl => ?_)
  refine lv_iconst (v := (0 : Int32)) hx hb dX10_inOne_8 (by decide) ?_
  refine lv_istore (lv' := [(5, .int (0 : Int32)), (4, .int r1), (0, .ref a_th), (1, .ref a_p1), (2, .int p_2), (3, .int p_3)]) hx hb dX10_inOne_9 hl (by decide) rfl (fun ls hl => ?_)
  have lp11 : ∀ (n11 : Nat) (x3 : Int32) (x4 : Int32) (w5 : (Nat → Int32)) (w6 : (Nat → Int32)) (k11 : Int32 → (Nat → Int32) → (Nat → Int32) → Option (Int32 × (Nat → Int32) × (Nat → Int32))) (H : Heap) (locs : List Loc) (ls : Array Slot), L_X10_inOne_11 v_questionSize v_facts v_p1 v_factOf v_question v_yesOf v_noOf p_2 p_3 n_p1 n11 x3 x4 w5 w6 k11 = some o → (∀ (x7 : Int32) (w8 : (Nat → Int32)) (w9 : (Nat → Int32)) (H : Heap) (locs : List Loc) (ls : Array Slot), k11 x7 w8 w9 = some o → va_P (dC, dI) vwCl [oX10 a_th (.int v_thrown) q_text (.int v_textSize) (.int v_place) (.ref a_question) (.int v_questionSize) (.int v_facts) (.int v_isSo) (.int v_common) (.int v_readFacts) (.int v_readSo) (.int v_readCommon) (.int v_readDay) q_page (.long v_seed) q_book q_bookSeed (.int v_acts) q_kept q_isKept (.int v_told) q_toldSimple q_toldDay q_toldYes (.ref a_yesOf) (.ref a_noOf) (.ref a_factOf) (.ref a_stack) q_one q_two (.ref a_three), aI cI a_p1 n_p1 v_p1, aI cI a_factOf 5 v_factOf, aI cI a_question 16 v_question, aI cZ a_stack 17 w8, aI cI a_yesOf 931 v_yesOf, aI cI a_noOf 931 v_noOf, aI cI a_three 7 w9] H → va_S A s.heap H locs → lv_has ls 6 [(4, .int x7)] → W p l e (headSpec wsX10_inOne { frames := 6, cells := 0, slots := 0, locals := 158 }).room s m [.ref a_th, .ref a_p1, .int p_2, .int p_3].toArray below meth c H locs 0 0 Q (F0 m 57 ls [])) → va_P (dC, dI) vwCl [oX10 a_th (.int v_thrown) q_text (.int v_textSize) (.int v_place) (.ref a_question) (.int v_questionSize) (.int v_facts) (.int v_isSo) (.int v_common) (.int v_readFacts) (.int v_readSo) (.int v_readCommon) (.int v_readDay) q_page (.long v_seed) q_book q_bookSeed (.int v_acts) q_kept q_isKept (.int v_told) q_toldSimple q_toldDay q_toldYes (.ref a_yesOf) (.ref a_noOf) (.ref a_factOf) (.ref a_stack) q_one q_two (.ref a_three), aI cI a_p1 n_p1 v_p1, aI cI a_factOf 5 v_factOf, aI cI a_question 16 v_question, aI cZ a_stack 17 w5, aI cI a_yesOf 931 v_yesOf, aI cI a_noOf 931 v_noOf, aI cI a_three 7 w6] H → va_S A s.heap H locs → lv_has ls 6 [(0, .ref a_th), (1, .ref a_p1), (2, .int p_2), (3, .int p_3), (4, .int x3), (5, .int x4)] → W p l e (headSpec wsX10_inOne { frames := 6, cells := 0, slots := 0, locals := 158 }).room s m [.ref a_th, .ref a_p1, .int p_2, .int p_3].toArray below meth c H locs 0 0 Q (F0 m 11 ls []) := by
    intro n11
    induction n11 with
    | zero =>
      intro x3 x4 w5 w6 k11 H locs ls hm
      cases (show (none : Option (Int32 × (Nat → Int32) × (Nat → Int32))) = some o from hm)
    | succ n11 ih11 =>
      intro x3 x4 w5 w6 k11 H locs ls hm hk11 hP hS hl
      rw [L_X10_inOne_11.eq_2] at hm
      refine lv_iload hx hb dX10_inOne_11 (lv_at hl 5 rfl) ?_
      refine lv_bipush (v := (19 : Int32)) hx hb dX10_inOne_13 (by decide) ?_
      refine lv_icmp_ge (tgt := 57) hx hb dX10_inOne_15 (by decide) (fun c10 => ?_) (fun c10 => ?_)
      · replace hm := ite_t c10 hm
        exact hk11 x3 w5 w6 _ _ _ hm hP hS (lv_sub hl [4] rfl)
      · replace hm := ite_f c10 hm
        refine lv_iload hx hb dX10_inOne_18 (lv_at hl 4 rfl) ?_
        refine lv_if_ne (tgt := 57) hx hb dX10_inOne_20 (by decide) (fun c11 => ?_) (fun c11 => ?_)
        · replace hm := ite_f c11 hm
          exact hk11 x3 w5 w6 _ _ _ hm hP hS (lv_sub hl [4] rfl)
        · replace hm := ite_t c11 hm
          refine lv_aload_n hx hb dX10_inOne_23 rfl (lv_at hl 0 rfl) ?_
          refine lv_iload hx hb dX10_inOne_24 (lv_at hl 5 rfl) ?_
          obtain ⟨r12, ho13, hm⟩ := bd1_s hm
          refine kb_calli (Rv := r12) (va_runV (As := [.int x4]) (rest := []) ⟨hx, hb, hml, hown, hts⟩ (c_X10_noSimple l dC dI cI cJ cZ cQ t H.size a_th q_text (.ref a_question) q_page q_book q_bookSeed q_kept q_isKept q_toldSimple q_toldDay q_toldYes (.ref a_yesOf) (.ref a_noOf) (.ref a_factOf) (.ref a_stack) q_one q_two (.ref a_three) v_thrown v_textSize v_place v_questionSize v_facts v_isSo v_common v_readFacts v_readSo v_readCommon v_readDay v_seed v_acts v_told x4 (r12) ho13) (cwV 1 hts gX10_inOne_X10_noSimple rfl rfl rfl (by decide +kernel) ⟨(Nat.le_of_ble_eq_true rfl), (Nat.le_of_ble_eq_true rfl)⟩) ⟨(kb_pre hK hG hP (kb_D hD rfl) hS hA [0] rfl (by decide)).1, (va_recv hK hP (ci := 8) (q0 := 0) rfl rfl), (kb_pre hK hG hP (kb_D hD rfl) hS hA [0] rfl (by decide)).2⟩ rfl rfl hl.1 rfl (lv_room (Nat.le_of_ble_eq_true rfl)) dX10_inOne_26 ⟨Nat.zero_le _, Nat.zero_le _⟩) hP (kb_D hD rfl) hS hA [0] rfl [(true, 0), (false, 1), (false, 2), (false, 3), (false, 4), (false, 5), (false, 6), (false, 7)] (w2 := [oX10 a_th (.int v_thrown) q_text (.int v_textSize) (.int v_place) (.ref a_question) (.int v_questionSize) (.int v_facts) (.int v_isSo) (.int v_common) (.int v_readFacts) (.int v_readSo) (.int v_readCommon) (.int v_readDay) q_page (.long v_seed) q_book q_bookSeed (.int v_acts) q_kept q_isKept (.int v_told) q_toldSimple q_toldDay q_toldYes (.ref a_yesOf) (.ref a_noOf) (.ref a_factOf) (.ref a_stack) q_one q_two (.ref a_three), aI cI a_p1 n_p1 v_p1, aI cI a_factOf 5 v_factOf, aI cI a_question 16 v_question, aI cZ a_stack 17 w5, aI cI a_yesOf 931 v_yesOf, aI cI a_noOf 931 v_noOf, aI cI a_three 7 w6]) rfl (by decide) (fun H locs hP hS => ?_)
          obtain ⟨k49, ek49, hm⟩ := nm_s hm
          have J49 : ∀ (x14 : Int32) (w15 : (Nat → Int32)) (w16 : (Nat → Int32)) (H : Heap) (locs : List Loc) (ls : Array Slot), k49 x14 w15 w16 = some o → va_P (dC, dI) vwCl [oX10 a_th (.int v_thrown) q_text (.int v_textSize) (.int v_place) (.ref a_question) (.int v_questionSize) (.int v_facts) (.int v_isSo) (.int v_common) (.int v_readFacts) (.int v_readSo) (.int v_readCommon) (.int v_readDay) q_page (.long v_seed) q_book q_bookSeed (.int v_acts) q_kept q_isKept (.int v_told) q_toldSimple q_toldDay q_toldYes (.ref a_yesOf) (.ref a_noOf) (.ref a_factOf) (.ref a_stack) q_one q_two (.ref a_three), aI cI a_p1 n_p1 v_p1, aI cI a_factOf 5 v_factOf, aI cI a_question 16 v_question, aI cZ a_stack 17 w15, aI cI a_yesOf 931 v_yesOf, aI cI a_noOf 931 v_noOf, aI cI a_three 7 w16] H → va_S A s.heap H locs → lv_has ls 6 [(0, .ref a_th), (1, .ref a_p1), (2, .int p_2), (3, .int p_3), (5, .int x4)] → W p l e (headSpec wsX10_inOne { frames := 6, cells := 0, slots := 0, locals := 158 }).room s m [.ref a_th, .ref a_p1, .int p_2, .int p_3].toArray below meth c H locs 0 0 Q (F0 m 49 ls [.int x14]) := by
            intro x14 w15 w16 H locs ls hm hP hS hl
            rw [ek49] at hm
            refine lv_istore (lv' := [(4, .int x14), (0, .ref a_th), (1, .ref a_p1), (2, .int p_2), (3, .int p_3), (5, .int x4)]) hx hb dX10_inOne_49 hl (by decide) rfl (fun ls hl => ?_)
            obtain ⟨x17, ex17⟩ : ∃ y : Int32, y = x4 + (1 : Int32) := ⟨_, rfl⟩
            replace hm := nm_t ex17 hm
            refine lv_iinc (v := x17) (lv' := [(5, .int x17), (4, .int x14), (0, .ref a_th), (1, .ref a_p1), (2, .int p_2), (3, .int p_3)]) hx hb dX10_inOne_51 hl (k := 5) rfl (by rw [ex17]; rfl) (by decide) rfl (fun ls hl => ?_)
            refine lv_goto (tgt := 11) hx hb dX10_inOne_54 (by decide) ?_
            exact ih11 x14 x17 w15 w16 k11 _ _ _ hm hk11 hP hS (lv_sub hl [2, 3, 4, 5, 1, 0] rfl)
          obtain ⟨k48, ek48, hm⟩ := nm_s hm
          have J48 : ∀ (w18 : (Nat → Int32)) (w19 : (Nat → Int32)) (H : Heap) (locs : List Loc) (ls : Array Slot), k48 w18 w19 = some o → va_P (dC, dI) vwCl [oX10 a_th (.int v_thrown) q_text (.int v_textSize) (.int v_place) (.ref a_question) (.int v_questionSize) (.int v_facts) (.int v_isSo) (.int v_common) (.int v_readFacts) (.int v_readSo) (.int v_readCommon) (.int v_readDay) q_page (.long v_seed) q_book q_bookSeed (.int v_acts) q_kept q_isKept (.int v_told) q_toldSimple q_toldDay q_toldYes (.ref a_yesOf) (.ref a_noOf) (.ref a_factOf) (.ref a_stack) q_one q_two (.ref a_three), aI cI a_p1 n_p1 v_p1, aI cI a_factOf 5 v_factOf, aI cI a_question 16 v_question, aI cZ a_stack 17 w18, aI cI a_yesOf 931 v_yesOf, aI cI a_noOf 931 v_noOf, aI cI a_three 7 w19] H → va_S A s.heap H locs → lv_has ls 6 [(0, .ref a_th), (1, .ref a_p1), (2, .int p_2), (3, .int p_3), (5, .int x4)] → W p l e (headSpec wsX10_inOne { frames := 6, cells := 0, slots := 0, locals := 158 }).room s m [.ref a_th, .ref a_p1, .int p_2, .int p_3].toArray below meth c H locs 0 0 Q (F0 m 48 ls []) := by
            intro w18 w19 H locs ls hm hP hS hl
            rw [ek48] at hm
            refine lv_iconst (v := (0 : Int32)) hx hb dX10_inOne_48 (by decide) ?_
            exact J49 (0 : Int32) w18 w19 _ _ _ hm hP hS (lv_sub hl [0, 1, 2, 3, 4] rfl)
          refine lv_if_ne (tgt := 48) hx hb dX10_inOne_29 (by decide) (fun c20 => ?_) (fun c20 => ?_)
          · replace hm := ite_f c20 hm
            exact J48 w5 w6 _ _ _ hm hP hS (lv_sub hl [0, 1, 2, 3, 5] rfl)
          · replace hm := ite_t c20 hm
            refine lv_aload_n hx hb dX10_inOne_32 rfl (lv_at hl 0 rfl) ?_
            refine lv_aload_n hx hb dX10_inOne_33 rfl (lv_at hl 1 rfl) ?_
            refine lv_iload hx hb dX10_inOne_34 (lv_at hl 5 rfl) ?_
            refine lv_iload_n hx hb dX10_inOne_36 rfl (lv_at hl 2 rfl) ?_
            refine lv_iload_n hx hb dX10_inOne_37 rfl (lv_at hl 3 rfl) ?_
            obtain ⟨r21, w22, w23, ho24, hm⟩ := bd3_s hm
            refine kb_calli (Rv := r21) (va_runV (As := [.ref a_p1, .int x4, .int p_2, .int p_3]) (rest := []) ⟨hx, hb, hml, hown, hts⟩ (c_X10_doesOne l dC dI cI cJ cZ cQ t H.size a_th a_p1 a_question a_stack a_yesOf a_noOf a_three a_factOf n_p1 q_text q_page q_book q_bookSeed q_kept q_isKept q_toldSimple q_toldDay q_toldYes q_one q_two v_thrown v_textSize v_place v_questionSize v_facts v_isSo v_common v_readFacts v_readSo v_readCommon v_readDay v_seed v_acts v_told v_p1 v_question w5 v_yesOf v_noOf w6 v_factOf x4 p_2 p_3 (r21, w22, w23) ho24) (cwV 4 hts gX10_inOne_X10_doesOne rfl rfl rfl (by decide +kernel) ⟨(Nat.le_of_ble_eq_true rfl), (Nat.le_of_ble_eq_true rfl)⟩) ⟨(kb_pre hK hG hP (kb_D hD rfl) hS hA [0, 1, 3, 4, 5, 6, 7, 2] rfl (by decide)).1, (va_recv hK hP (ci := 8) (q0 := 0) rfl rfl), (kb_pre hK hG hP (kb_D hD rfl) hS hA [0, 1, 3, 4, 5, 6, 7, 2] rfl (by decide)).2⟩ rfl rfl hl.1 rfl (lv_room (Nat.le_of_ble_eq_true rfl)) dX10_inOne_38 ⟨Nat.zero_le _, Nat.zero_le _⟩) hP (kb_D hD rfl) hS hA [0, 1, 3, 4, 5, 6, 7, 2] rfl [(true, 0), (true, 1), (true, 7), (true, 2), (true, 3), (true, 4), (true, 5), (true, 6)] (w2 := [oX10 a_th (.int v_thrown) q_text (.int v_textSize) (.int v_place) (.ref a_question) (.int v_questionSize) (.int v_facts) (.int v_isSo) (.int v_common) (.int v_readFacts) (.int v_readSo) (.int v_readCommon) (.int v_readDay) q_page (.long v_seed) q_book q_bookSeed (.int v_acts) q_kept q_isKept (.int v_told) q_toldSimple q_toldDay q_toldYes (.ref a_yesOf) (.ref a_noOf) (.ref a_factOf) (.ref a_stack) q_one q_two (.ref a_three), aI cI a_p1 n_p1 v_p1, aI cI a_factOf 5 v_factOf, aI cI a_question 16 v_question, aI cZ a_stack 17 w22, aI cI a_yesOf 931 v_yesOf, aI cI a_noOf 931 v_noOf, aI cI a_three 7 w23]) rfl (by decide) (fun H locs hP hS => ?_)
            refine lv_if_eq (tgt := 48) hx hb dX10_inOne_41 (by decide) (fun c25 => ?_) (fun c25 => ?_)
            · replace hm := ite_t c25 hm
              exact J48 w22 w23 _ _ _ hm hP hS (lv_sub hl [0, 1, 2, 3, 5] rfl)
            · replace hm := ite_f c25 hm
              refine lv_iconst (v := (1 : Int32)) hx hb dX10_inOne_44 (by decide) ?_
              refine lv_goto (tgt := 49) hx hb dX10_inOne_45 (by decide) ?_
              exact J49 (1 : Int32) w22 w23 _ _ _ hm hP hS (lv_sub hl [0, 1, 2, 3, 5] rfl)
  refine lp11 1024 r1 (0 : Int32) v_stack v_three _ _ _ _ hm (fun x7 w8 w9 H locs ls hm hP hS hl => ?_) hP hS (lv_sub hl [2, 3, 4, 5, 1, 0] rfl)
  refine lv_iload hx hb dX10_inOne_57 (lv_at hl 0 rfl) ?_
  obtain ⟨h26, hm⟩ := gd_s hm
  obtain rfl := Option.some.inj hm
  subst hQ
  exact W.zret hx hb hr (zB_n h26) (fun t ht hW => ⟨⟨_, (), rfl, rfl, kb_h hP ht⟩, hS.F ht⟩) hS.2.2 dX10_inOne_59
set_option maxHeartbeats 4000000 in
set_option maxRecDepth 100000 in
theorem c_X10_doesTwo (l : Launch) (dC : Nat → ClassId) (dI : Nat → Nat → Nat) (cI cJ cZ cQ : ClassId) (t sz : Nat) (a_th : Nat) (a_p1 : Nat) (a_question : Nat) (a_stack : Nat) (a_yesOf : Nat) (a_noOf : Nat) (a_two : Nat) (a_factOf : Nat) (a_three : Nat) (n_p1 : Nat) (q_text : Value) (q_page : Value) (q_book : Value) (q_bookSeed : Value) (q_kept : Value) (q_isKept : Value) (q_toldSimple : Value) (q_toldDay : Value) (q_toldYes : Value) (q_one : Value) (v_thrown : Int32) (v_textSize : Int32) (v_place : Int32) (v_questionSize : Int32) (v_facts : Int32) (v_isSo : Int32) (v_common : Int32) (v_readFacts : Int32) (v_readSo : Int32) (v_readCommon : Int32) (v_readDay : Int32) (v_seed : Int64) (v_acts : Int32) (v_told : Int32) (v_p1 : (Nat → Int32)) (v_question : (Nat → Int32)) (v_stack : (Nat → Int32)) (v_yesOf : (Nat → Int32)) (v_noOf : (Nat → Int32)) (v_two : (Nat → Int32)) (v_factOf : (Nat → Int32)) (v_three : (Nat → Int32)) (p_2 : Int32) (p_3 : Int32) (p_4 : Int32) (o : Int32 × (Nat → Int32) × (Nat → Int32) × (Nat → Int32)) (hm : m_X10_doesTwo p_2 p_3 p_4 n_p1 v_questionSize v_facts v_p1 v_question v_stack v_yesOf v_noOf v_two v_factOf v_three = some o) : Met l yX10_doesTwo wsX10_doesTwo { frames := 7, cells := 0, slots := 0, locals := 183 } (va_Pc [.ref a_th, .ref a_p1, .int p_2, .int p_3, .int p_4] (cP (dC, dI) (kT cI cJ cZ cQ) t sz [oX10 a_th (.int v_thrown) q_text (.int v_textSize) (.int v_place) (.ref a_question) (.int v_questionSize) (.int v_facts) (.int v_isSo) (.int v_common) (.int v_readFacts) (.int v_readSo) (.int v_readCommon) (.int v_readDay) q_page (.long v_seed) q_book q_bookSeed (.int v_acts) q_kept q_isKept (.int v_told) q_toldSimple q_toldDay q_toldYes (.ref a_yesOf) (.ref a_noOf) (.ref a_factOf) (.ref a_stack) q_one (.ref a_two) (.ref a_three), aI cI a_p1 n_p1 v_p1, aI cI a_question 16 v_question, aI cZ a_stack 17 v_stack, aI cI a_yesOf 931 v_yesOf, aI cI a_noOf 931 v_noOf, aI cI a_two 7 v_two, aI cI a_factOf 5 v_factOf, aI cI a_three 7 v_three])) (cQi (dC, dI) (va_A [oX10 a_th (.int v_thrown) q_text (.int v_textSize) (.int v_place) (.ref a_question) (.int v_questionSize) (.int v_facts) (.int v_isSo) (.int v_common) (.int v_readFacts) (.int v_readSo) (.int v_readCommon) (.int v_readDay) q_page (.long v_seed) q_book q_bookSeed (.int v_acts) q_kept q_isKept (.int v_told) q_toldSimple q_toldDay q_toldYes (.ref a_yesOf) (.ref a_noOf) (.ref a_factOf) (.ref a_stack) q_one (.ref a_two) (.ref a_three), aI cI a_p1 n_p1 v_p1, aI cI a_question 16 v_question, aI cZ a_stack 17 v_stack, aI cI a_yesOf 931 v_yesOf, aI cI a_noOf 931 v_noOf, aI cI a_two 7 v_two, aI cI a_factOf 5 v_factOf, aI cI a_three 7 v_three] sz) o.1 [oX10 a_th (.int v_thrown) q_text (.int v_textSize) (.int v_place) (.ref a_question) (.int v_questionSize) (.int v_facts) (.int v_isSo) (.int v_common) (.int v_readFacts) (.int v_readSo) (.int v_readCommon) (.int v_readDay) q_page (.long v_seed) q_book q_bookSeed (.int v_acts) q_kept q_isKept (.int v_told) q_toldSimple q_toldDay q_toldYes (.ref a_yesOf) (.ref a_noOf) (.ref a_factOf) (.ref a_stack) q_one (.ref a_two) (.ref a_three), aI cI a_p1 n_p1 v_p1, aI cI a_question 16 v_question, aI cZ a_stack 17 (o.2.1), aI cI a_yesOf 931 v_yesOf, aI cI a_noOf 931 v_noOf, aI cI a_two 7 (o.2.2.1), aI cI a_factOf 5 v_factOf, aI cI a_three 7 (o.2.2.2)]) 0 0 (va_A [oX10 a_th (.int v_thrown) q_text (.int v_textSize) (.int v_place) (.ref a_question) (.int v_questionSize) (.int v_facts) (.int v_isSo) (.int v_common) (.int v_readFacts) (.int v_readSo) (.int v_readCommon) (.int v_readDay) q_page (.long v_seed) q_book q_bookSeed (.int v_acts) q_kept q_isKept (.int v_told) q_toldSimple q_toldDay q_toldYes (.ref a_yesOf) (.ref a_noOf) (.ref a_factOf) (.ref a_stack) q_one (.ref a_two) (.ref a_three), aI cI a_p1 n_p1 v_p1, aI cI a_question 16 v_question, aI cZ a_stack 17 v_stack, aI cI a_yesOf 931 v_yesOf, aI cI a_noOf 931 v_noOf, aI cI a_two 7 v_two, aI cI a_factOf 5 v_factOf, aI cI a_three 7 v_three] sz) := by
  refine Met.ofW (cc := cX10_doesTwo) (maxL := 7) (ret := (some .boolean)) (by decide) rfl ?_
  intro p e s m args below meth c s₁ B hml hv
  obtain ⟨rfl, hsz, hP, hK, hD0, hG⟩ := hv
  have hx := B.exec
  have hb := B.bytes
  have hr := B.returns
  have hts := atoms_spec (ws := wsX10_doesTwo) B.pre
  have hown : s.vm.findClass RX10 = some m.cls := findClass_of_methodNamed B.named
  have hlocks := B.notSynchronized
  subst hsz
  have hD := hD0.self (sz := s.heap.size)
  generalize hAe : va_A [oX10 a_th (.int v_thrown) q_text (.int v_textSize) (.int v_place) (.ref a_question) (.int v_questionSize) (.int v_facts) (.int v_isSo) (.int v_common) (.int v_readFacts) (.int v_readSo) (.int v_readCommon) (.int v_readDay) q_page (.long v_seed) q_book q_bookSeed (.int v_acts) q_kept q_isKept (.int v_told) q_toldSimple q_toldDay q_toldYes (.ref a_yesOf) (.ref a_noOf) (.ref a_factOf) (.ref a_stack) q_one (.ref a_two) (.ref a_three), aI cI a_p1 n_p1 v_p1, aI cI a_question 16 v_question, aI cZ a_stack 17 v_stack, aI cI a_yesOf 931 v_yesOf, aI cI a_noOf 931 v_noOf, aI cI a_two 7 v_two, aI cI a_factOf 5 v_factOf, aI cI a_three 7 v_three] s.heap.size = A at hD hG ⊢
  have hA : ∀ q : Nat, s.heap.size ≤ q → A q := fun q h => by rw [← hAe]; exact Or.inr h
  have hS : va_S A s.heap s.heap [] := va_S.rf
  have hl := lv_entry ([.ref a_th, .ref a_p1, .int p_2, .int p_3, .int p_4]) (n := 7) (Nat.le_of_ble_eq_true rfl)
  rw [lg_entry_eq]
  generalize (lg_sl ([.ref a_th, .ref a_p1, .int p_2, .int p_3, .int p_4]) ++ List.replicate (7 - (lg_sl ([.ref a_th, .ref a_p1, .int p_2, .int p_3, .int p_4])).length) Slot.unset).toArray = ls at hl ⊢
  have hl : lv_has ls 7 [(0, .ref a_th), (1, .ref a_p1), (2, .int p_2), (3, .int p_3), (4, .int p_4)] := hl
  have iX10 : ∀ w ∈ wsX100, w ∈ wsX10_doesTwo := fun _ h => List.mem_cons_of_mem _ (List.mem_append_right _ h)
  have f57 := hts (.fieldLink RX10 57 "TrueOnceWeekModel" "two" "[I") (by decide +kernel)
  refine kb_gen (fun Q hQ => ?_)
  unfold m_X10_doesTwo at hm
  refine lv_iconst (v := (1 : Int32)) hx hb dX10_doesTwo_0 (by decide) ?_
  refine lv_istore (lv' := [(5, .int (1 : Int32)), (0, .ref a_th), (1, .ref a_p1), (2, .int p_2), (3, .int p_3), (4, .int p_4)]) hx hb dX10_doesTwo_1 hl (by decide) rfl (fun ls hl => ?_)
  refine lv_iconst (v := (0 : Int32)) hx hb dX10_doesTwo_3 (by decide) ?_
  refine lv_istore (lv' := [(6, .int (0 : Int32)), (5, .int (1 : Int32)), (0, .ref a_th), (1, .ref a_p1), (2, .int p_2), (3, .int p_3), (4, .int p_4)]) hx hb dX10_doesTwo_4 hl (by decide) rfl (fun ls hl => ?_)
  have lp6 : ∀ (n6 : Nat) (x1 : Int32) (x2 : Int32) (w3 : (Nat → Int32)) (w4 : (Nat → Int32)) (w5 : (Nat → Int32)) (k6 : Int32 → (Nat → Int32) → (Nat → Int32) → (Nat → Int32) → Option (Int32 × (Nat → Int32) × (Nat → Int32) × (Nat → Int32))) (H : Heap) (locs : List Loc) (ls : Array Slot), L_X10_doesTwo_6 v_questionSize v_facts v_p1 v_question v_yesOf v_noOf v_factOf p_2 p_3 p_4 n_p1 n6 x1 x2 w3 w4 w5 k6 = some o → (∀ (x6 : Int32) (w7 : (Nat → Int32)) (w8 : (Nat → Int32)) (w9 : (Nat → Int32)) (H : Heap) (locs : List Loc) (ls : Array Slot), k6 x6 w7 w8 w9 = some o → va_P (dC, dI) vwCl [oX10 a_th (.int v_thrown) q_text (.int v_textSize) (.int v_place) (.ref a_question) (.int v_questionSize) (.int v_facts) (.int v_isSo) (.int v_common) (.int v_readFacts) (.int v_readSo) (.int v_readCommon) (.int v_readDay) q_page (.long v_seed) q_book q_bookSeed (.int v_acts) q_kept q_isKept (.int v_told) q_toldSimple q_toldDay q_toldYes (.ref a_yesOf) (.ref a_noOf) (.ref a_factOf) (.ref a_stack) q_one (.ref a_two) (.ref a_three), aI cI a_p1 n_p1 v_p1, aI cI a_question 16 v_question, aI cZ a_stack 17 w7, aI cI a_yesOf 931 v_yesOf, aI cI a_noOf 931 v_noOf, aI cI a_two 7 w8, aI cI a_factOf 5 v_factOf, aI cI a_three 7 w9] H → va_S A s.heap H locs → lv_has ls 7 [(5, .int x6)] → W p l e (headSpec wsX10_doesTwo { frames := 7, cells := 0, slots := 0, locals := 183 }).room s m [.ref a_th, .ref a_p1, .int p_2, .int p_3, .int p_4].toArray below meth c H locs 0 0 Q (F0 m 54 ls [])) → va_P (dC, dI) vwCl [oX10 a_th (.int v_thrown) q_text (.int v_textSize) (.int v_place) (.ref a_question) (.int v_questionSize) (.int v_facts) (.int v_isSo) (.int v_common) (.int v_readFacts) (.int v_readSo) (.int v_readCommon) (.int v_readDay) q_page (.long v_seed) q_book q_bookSeed (.int v_acts) q_kept q_isKept (.int v_told) q_toldSimple q_toldDay q_toldYes (.ref a_yesOf) (.ref a_noOf) (.ref a_factOf) (.ref a_stack) q_one (.ref a_two) (.ref a_three), aI cI a_p1 n_p1 v_p1, aI cI a_question 16 v_question, aI cZ a_stack 17 w3, aI cI a_yesOf 931 v_yesOf, aI cI a_noOf 931 v_noOf, aI cI a_two 7 w4, aI cI a_factOf 5 v_factOf, aI cI a_three 7 w5] H → va_S A s.heap H locs → lv_has ls 7 [(0, .ref a_th), (1, .ref a_p1), (2, .int p_2), (3, .int p_3), (4, .int p_4), (5, .int x1), (6, .int x2)] → W p l e (headSpec wsX10_doesTwo { frames := 7, cells := 0, slots := 0, locals := 183 }).room s m [.ref a_th, .ref a_p1, .int p_2, .int p_3, .int p_4].toArray below meth c H locs 0 0 Q (F0 m 6 ls []) := by
    intro n6
    induction n6 with
    | zero =>
      intro x1 x2 w3 w4 w5 k6 H locs ls hm
      cases (show (none : Option (Int32 × (Nat → Int32) × (Nat → Int32) × (Nat → Int32))) = some o from hm)
    | succ n6 ih6 =>
      intro x1 x2 w3 w4 w5 k6 H locs ls hm hk6 hP hS hl
      rw [L_X10_doesTwo_6.eq_2] at hm
      refine lv_iload hx hb dX10_doesTwo_6 (lv_at hl 6 rfl) ?_
      refine lv_iconst (v := (3 : Int32)) hx hb dX10_doesTwo_8 (by decide) ?_
      refine lv_icmp_ge (tgt := 54) hx hb dX10_doesTwo_9 (by decide) (fun c10 => ?_) (fun c10 => ?_)
      · replace hm := ite_t c10 hm
        exact hk6 x1 w3 w4 w5 _ _ _ hm hP hS (lv_sub hl [5] rfl)
      · replace hm := ite_f c10 hm
        refine lv_iload hx hb dX10_doesTwo_12 (lv_at hl 5 rfl) ?_
        refine lv_if_eq (tgt := 54) hx hb dX10_doesTwo_14 (by decide) (fun c11 => ?_) (fun c11 => ?_)
        · replace hm := ite_t c11 hm
          exact hk6 x1 w3 w4 w5 _ _ _ hm hP hS (lv_sub hl [5] rfl)
        · replace hm := ite_f c11 hm
          refine lv_aload_n hx hb dX10_doesTwo_17 rfl (lv_at hl 0 rfl) ?_
          refine lv_aload_n hx hb dX10_doesTwo_18 rfl (lv_at hl 1 rfl) ?_
          refine lv_iload_n hx hb dX10_doesTwo_19 rfl (lv_at hl 2 rfl) ?_
          refine lv_iload_n hx hb dX10_doesTwo_20 rfl (lv_at hl 3 rfl) ?_
          refine lv_iload hx hb dX10_doesTwo_21 (lv_at hl 6 rfl) ?_
          obtain ⟨r12, ho13, hm⟩ := bd1_s hm
          refine kb_calli (Rv := r12) (va_runS (As := [.int x2]) (rest := [.int p_3, .int p_2, .ref a_p1, .ref a_th]) ⟨hx, hb, hml, hown, hts⟩ (c_X10_answerAt l dC dI cI cJ cZ cQ t H.size x2 (r12) ho13) (va_cwS 1 hts gX10_doesTwo_X10_answerAt rfl rfl rfl (by decide +kernel) ⟨(Nat.le_of_ble_eq_true rfl), (Nat.le_of_ble_eq_true rfl)⟩) (kb_pre hK hG hP (kb_D hD rfl) hS hA [] rfl (by decide)) rfl rfl hl.1 rfl (lv_room (Nat.le_of_ble_eq_true rfl)) dX10_doesTwo_23 ⟨Nat.zero_le _, Nat.zero_le _⟩) hP (kb_D hD rfl) hS hA [] rfl [(false, 0), (false, 1), (false, 2), (false, 3), (false, 4), (false, 5), (false, 6), (false, 7), (false, 8)] (w2 := [oX10 a_th (.int v_thrown) q_text (.int v_textSize) (.int v_place) (.ref a_question) (.int v_questionSize) (.int v_facts) (.int v_isSo) (.int v_common) (.int v_readFacts) (.int v_readSo) (.int v_readCommon) (.int v_readDay) q_page (.long v_seed) q_book q_bookSeed (.int v_acts) q_kept q_isKept (.int v_told) q_toldSimple q_toldDay q_toldYes (.ref a_yesOf) (.ref a_noOf) (.ref a_factOf) (.ref a_stack) q_one (.ref a_two) (.ref a_three), aI cI a_p1 n_p1 v_p1, aI cI a_question 16 v_question, aI cZ a_stack 17 w3, aI cI a_yesOf 931 v_yesOf, aI cI a_noOf 931 v_noOf, aI cI a_two 7 w4, aI cI a_factOf 5 v_factOf, aI cI a_three 7 w5]) rfl (by decide) (fun H locs hP hS => ?_)
          refine lv_aload_n hx hb dX10_doesTwo_26 rfl (lv_at hl 0 rfl) ?_
          refine va_get (D := (dC, dI)) (ci := 8) (v := .ref a_two) (C := RX10) (T := TX10) (N := 31) hx hb hts iX10 hown hK hP 0 rfl rfl 29 (by decide) f57 (fun _ h9 => h9) rfl dX10_doesTwo_27 ?_
          obtain ⟨w14, w15, ho16, hm⟩ := bd2_s hm
          refine kb_callv (va_runV (As := [.ref a_p1, .int p_2, .int p_3, .int r12, .ref a_two]) (rest := []) ⟨hx, hb, hml, hown, hts⟩ (c_X10_part l dC dI cI cJ cZ cQ t H.size a_th a_p1 a_question a_stack a_yesOf a_noOf a_two n_p1 7 q_text q_page q_book q_bookSeed q_kept q_isKept q_toldSimple q_toldDay q_toldYes (.ref a_factOf) q_one (.ref a_two) (.ref a_three) v_thrown v_textSize v_place v_questionSize v_facts v_isSo v_common v_readFacts v_readSo v_readCommon v_readDay v_seed v_acts v_told v_p1 v_question w3 v_yesOf v_noOf w4 p_2 p_3 r12 (w14, w15) ho16) (cwV 5 hts gX10_doesTwo_X10_part rfl rfl rfl (by decide +kernel) ⟨(Nat.le_of_ble_eq_true rfl), (Nat.le_of_ble_eq_true rfl)⟩) ⟨(kb_pre hK hG hP (kb_D hD rfl) hS hA [0, 1, 2, 3, 4, 5, 6] rfl (by decide)).1, (va_recv hK hP (ci := 8) (q0 := 0) rfl rfl), (kb_pre hK hG hP (kb_D hD rfl) hS hA [0, 1, 2, 3, 4, 5, 6] rfl (by decide)).2⟩ rfl rfl hl.1 rfl (lv_room (Nat.le_of_ble_eq_true rfl)) dX10_doesTwo_30 ⟨Nat.zero_le _, Nat.zero_le _⟩) hP (kb_D hD rfl) hS hA [0, 1, 2, 3, 4, 5, 6] rfl [(true, 0), (true, 1), (true, 2), (true, 3), (true, 4), (true, 5), (true, 6), (false, 7), (false, 8)] (w2 := [oX10 a_th (.int v_thrown) q_text (.int v_textSize) (.int v_place) (.ref a_question) (.int v_questionSize) (.int v_facts) (.int v_isSo) (.int v_common) (.int v_readFacts) (.int v_readSo) (.int v_readCommon) (.int v_readDay) q_page (.long v_seed) q_book q_bookSeed (.int v_acts) q_kept q_isKept (.int v_told) q_toldSimple q_toldDay q_toldYes (.ref a_yesOf) (.ref a_noOf) (.ref a_factOf) (.ref a_stack) q_one (.ref a_two) (.ref a_three), aI cI a_p1 n_p1 v_p1, aI cI a_question 16 v_question, aI cZ a_stack 17 w14, aI cI a_yesOf 931 v_yesOf, aI cI a_noOf 931 v_noOf, aI cI a_two 7 w15, aI cI a_factOf 5 v_factOf, aI cI a_three 7 w5]) rfl (by decide) (fun H locs hP hS => ?_)
          refine lv_aload_n hx hb dX10_doesTwo_33 rfl (lv_at hl 0 rfl) ?_
          refine lv_aload_n hx hb dX10_doesTwo_34 rfl (lv_at hl 0 rfl) ?_
          refine va_get (D := (dC, dI)) (ci := 8) (v := .ref a_two) (C := RX10) (T := TX10) (N := 31) hx hb hts iX10 hown hK hP 0 rfl rfl 29 (by decide) f57 (fun _ h9 => h9) rfl dX10_doesTwo_35 ?_
          refine lv_iload_n hx hb dX10_doesTwo_38 rfl (lv_at hl 3 rfl) ?_
          refine lv_iconst (v := (1 : Int32)) hx hb dX10_doesTwo_39 (by decide) ?_
          refine lv_iadd hx hb dX10_doesTwo_40 ?_
          refine lv_iload hx hb dX10_doesTwo_41 (lv_at hl 4 rfl) ?_
          obtain ⟨r17, w18, w19, ho20, hm⟩ := bd3_s hm
          refine kb_calli (Rv := r17) (va_runV (As := [.ref a_two, .int (p_3 + (1 : Int32)), .int p_4]) (rest := []) ⟨hx, hb, hml, hown, hts⟩ (c_X10_inOne l dC dI cI cJ cZ cQ t H.size a_th a_two a_factOf a_question a_stack a_yesOf a_noOf a_three 7 q_text q_page q_book q_bookSeed q_kept q_isKept q_toldSimple q_toldDay q_toldYes q_one (.ref a_two) v_thrown v_textSize v_place v_questionSize v_facts v_isSo v_common v_readFacts v_readSo v_readCommon v_readDay v_seed v_acts v_told w15 v_factOf v_question w14 v_yesOf v_noOf w5 (p_3 + (1 : Int32)) p_4 (r17, w18, w19) ho20) (cwV 3 hts gX10_doesTwo_X10_inOne rfl rfl rfl (by decide +kernel) ⟨(Nat.le_of_ble_eq_true rfl), (Nat.le_of_ble_eq_true rfl)⟩) ⟨(kb_pre hK hG hP (kb_D hD rfl) hS hA [0, 6, 7, 2, 3, 4, 5, 8] rfl (by decide)).1, (va_recv hK hP (ci := 8) (q0 := 0) rfl rfl), (kb_pre hK hG hP (kb_D hD rfl) hS hA [0, 6, 7, 2, 3, 4, 5, 8] rfl (by decide)).2⟩ rfl rfl hl.1 rfl (lv_room (Nat.le_of_ble_eq_true rfl)) dX10_doesTwo_43 ⟨Nat.zero_le _, Nat.zero_le _⟩) hP (kb_D hD rfl) hS hA [0, 6, 7, 2, 3, 4, 5, 8] rfl [(true, 0), (false, 1), (true, 3), (true, 4), (true, 5), (true, 6), (true, 1), (true, 2), (true, 7)] (w2 := [oX10 a_th (.int v_thrown) q_text (.int v_textSize) (.int v_place) (.ref a_question) (.int v_questionSize) (.int v_facts) (.int v_isSo) (.int v_common) (.int v_readFacts) (.int v_readSo) (.int v_readCommon) (.int v_readDay) q_page (.long v_seed) q_book q_bookSeed (.int v_acts) q_kept q_isKept (.int v_told) q_toldSimple q_toldDay q_toldYes (.ref a_yesOf) (.ref a_noOf) (.ref a_factOf) (.ref a_stack) q_one (.ref a_two) (.ref a_three), aI cI a_p1 n_p1 v_p1, aI cI a_question 16 v_question, aI cZ a_stack 17 w18, aI cI a_yesOf 931 v_yesOf, aI cI a_noOf 931 v_noOf, aI cI a_two 7 w15, aI cI a_factOf 5 v_factOf, aI cI a_three 7 w19]) rfl (by decide) (fun H locs hP hS => ?_)
          refine lv_istore (lv' := [(5, .int r17), (0, .ref a_th), (1, .ref a_p1), (2, .int p_2), (3, .int p_3), (4, .int p_4), (6, .int x2)]) hx hb dX10_doesTwo_46 hl (by decide) rfl (fun ls hl => ?_)
          obtain ⟨x21, ex21⟩ : ∃ y : Int32, y = x2 + (1 : Int32) := ⟨_, rfl⟩
          replace hm := nm_t ex21 hm
          refine lv_iinc (v := x21) (lv' := [(6, .int x21), (5, .int r17), (0, .ref a_th), (1, .ref a_p1), (2, .int p_2), (3, .int p_3), (4, .int p_4)]) hx hb dX10_doesTwo_48 hl (k := 6) rfl (by rw [ex21]; rfl) (by decide) rfl (fun ls hl => ?_)
          refine lv_goto (tgt := 6) hx hb dX10_doesTwo_51 (by decide) ?_
          exact ih6 r17 x21 w18 w15 w19 k6 _ _ _ hm hk6 hP hS (lv_sub hl [2, 3, 4, 5, 6, 1, 0] rfl)
  refine lp6 1024 (1 : Int32) (0 : Int32) v_stack v_two v_three _ _ _ _ hm (fun x6 w7 w8 w9 H locs ls hm hP hS hl => ?_) hP hS (lv_sub hl [2, 3, 4, 5, 6, 1, 0] rfl)
  refine lv_iload hx hb dX10_doesTwo_54 (lv_at hl 0 rfl) ?_
  obtain ⟨h22, hm⟩ := gd_s hm
  obtain rfl := Option.some.inj hm
  subst hQ
  exact W.zret hx hb hr (zB_n h22) (fun t ht hW => ⟨⟨_, (), rfl, rfl, kb_h hP ht⟩, hS.F ht⟩) hS.2.2 dX10_doesTwo_56
set_option maxHeartbeats 4000000 in
set_option maxRecDepth 100000 in
theorem c_X10_inTwo (l : Launch) (dC : Nat → ClassId) (dI : Nat → Nat → Nat) (cI cJ cZ cQ : ClassId) (t sz : Nat) (a_th : Nat) (a_p1 : Nat) (a_factOf : Nat) (a_question : Nat) (a_stack : Nat) (a_yesOf : Nat) (a_noOf : Nat) (a_two : Nat) (a_three : Nat) (n_p1 : Nat) (q_text : Value) (q_page : Value) (q_book : Value) (q_bookSeed : Value) (q_kept : Value) (q_isKept : Value) (q_toldSimple : Value) (q_toldDay : Value) (q_toldYes : Value) (q_one : Value) (v_thrown : Int32) (v_textSize : Int32) (v_place : Int32) (v_questionSize : Int32) (v_facts : Int32) (v_isSo : Int32) (v_common : Int32) (v_readFacts : Int32) (v_readSo : Int32) (v_readCommon : Int32) (v_readDay : Int32) (v_seed : Int64) (v_acts : Int32) (v_told : Int32) (v_p1 : (Nat → Int32)) (v_factOf : (Nat → Int32)) (v_question : (Nat → Int32)) (v_stack : (Nat → Int32)) (v_yesOf : (Nat → Int32)) (v_noOf : (Nat → Int32)) (v_two : (Nat → Int32)) (v_three : (Nat → Int32)) (p_2 : Int32) (p_3 : Int32) (o : Int32 × (Nat → Int32) × (Nat → Int32) × (Nat → Int32)) (hm : m_X10_inTwo p_2 p_3 n_p1 v_questionSize v_facts v_p1 v_factOf v_question v_stack v_yesOf v_noOf v_two v_three = some o) : Met l yX10_inTwo wsX10_inTwo { frames := 8, cells := 0, slots := 0, locals := 209 } (va_Pc [.ref a_th, .ref a_p1, .int p_2, .int p_3] (cP (dC, dI) (kT cI cJ cZ cQ) t sz [oX10 a_th (.int v_thrown) q_text (.int v_textSize) (.int v_place) (.ref a_question) (.int v_questionSize) (.int v_facts) (.int v_isSo) (.int v_common) (.int v_readFacts) (.int v_readSo) (.int v_readCommon) (.int v_readDay) q_page (.long v_seed) q_book q_bookSeed (.int v_acts) q_kept q_isKept (.int v_told) q_toldSimple q_toldDay q_toldYes (.ref a_yesOf) (.ref a_noOf) (.ref a_factOf) (.ref a_stack) q_one (.ref a_two) (.ref a_three), aI cI a_p1 n_p1 v_p1, aI cI a_factOf 5 v_factOf, aI cI a_question 16 v_question, aI cZ a_stack 17 v_stack, aI cI a_yesOf 931 v_yesOf, aI cI a_noOf 931 v_noOf, aI cI a_two 7 v_two, aI cI a_three 7 v_three])) (cQi (dC, dI) (va_A [oX10 a_th (.int v_thrown) q_text (.int v_textSize) (.int v_place) (.ref a_question) (.int v_questionSize) (.int v_facts) (.int v_isSo) (.int v_common) (.int v_readFacts) (.int v_readSo) (.int v_readCommon) (.int v_readDay) q_page (.long v_seed) q_book q_bookSeed (.int v_acts) q_kept q_isKept (.int v_told) q_toldSimple q_toldDay q_toldYes (.ref a_yesOf) (.ref a_noOf) (.ref a_factOf) (.ref a_stack) q_one (.ref a_two) (.ref a_three), aI cI a_p1 n_p1 v_p1, aI cI a_factOf 5 v_factOf, aI cI a_question 16 v_question, aI cZ a_stack 17 v_stack, aI cI a_yesOf 931 v_yesOf, aI cI a_noOf 931 v_noOf, aI cI a_two 7 v_two, aI cI a_three 7 v_three] sz) o.1 [oX10 a_th (.int v_thrown) q_text (.int v_textSize) (.int v_place) (.ref a_question) (.int v_questionSize) (.int v_facts) (.int v_isSo) (.int v_common) (.int v_readFacts) (.int v_readSo) (.int v_readCommon) (.int v_readDay) q_page (.long v_seed) q_book q_bookSeed (.int v_acts) q_kept q_isKept (.int v_told) q_toldSimple q_toldDay q_toldYes (.ref a_yesOf) (.ref a_noOf) (.ref a_factOf) (.ref a_stack) q_one (.ref a_two) (.ref a_three), aI cI a_p1 n_p1 v_p1, aI cI a_factOf 5 v_factOf, aI cI a_question 16 v_question, aI cZ a_stack 17 (o.2.1), aI cI a_yesOf 931 v_yesOf, aI cI a_noOf 931 v_noOf, aI cI a_two 7 (o.2.2.1), aI cI a_three 7 (o.2.2.2)]) 0 0 (va_A [oX10 a_th (.int v_thrown) q_text (.int v_textSize) (.int v_place) (.ref a_question) (.int v_questionSize) (.int v_facts) (.int v_isSo) (.int v_common) (.int v_readFacts) (.int v_readSo) (.int v_readCommon) (.int v_readDay) q_page (.long v_seed) q_book q_bookSeed (.int v_acts) q_kept q_isKept (.int v_told) q_toldSimple q_toldDay q_toldYes (.ref a_yesOf) (.ref a_noOf) (.ref a_factOf) (.ref a_stack) q_one (.ref a_two) (.ref a_three), aI cI a_p1 n_p1 v_p1, aI cI a_factOf 5 v_factOf, aI cI a_question 16 v_question, aI cZ a_stack 17 v_stack, aI cI a_yesOf 931 v_yesOf, aI cI a_noOf 931 v_noOf, aI cI a_two 7 v_two, aI cI a_three 7 v_three] sz) := by
  refine Met.ofW (cc := cX10_inTwo) (maxL := 6) (ret := (some .boolean)) (by decide) rfl ?_
  intro p e s m args below meth c s₁ B hml hv
  obtain ⟨rfl, hsz, hP, hK, hD0, hG⟩ := hv
  have hx := B.exec
  have hb := B.bytes
  have hr := B.returns
  have hts := atoms_spec (ws := wsX10_inTwo) B.pre
  have hown : s.vm.findClass RX10 = some m.cls := findClass_of_methodNamed B.named
  have hlocks := B.notSynchronized
  subst hsz
  have hD := hD0.self (sz := s.heap.size)
  generalize hAe : va_A [oX10 a_th (.int v_thrown) q_text (.int v_textSize) (.int v_place) (.ref a_question) (.int v_questionSize) (.int v_facts) (.int v_isSo) (.int v_common) (.int v_readFacts) (.int v_readSo) (.int v_readCommon) (.int v_readDay) q_page (.long v_seed) q_book q_bookSeed (.int v_acts) q_kept q_isKept (.int v_told) q_toldSimple q_toldDay q_toldYes (.ref a_yesOf) (.ref a_noOf) (.ref a_factOf) (.ref a_stack) q_one (.ref a_two) (.ref a_three), aI cI a_p1 n_p1 v_p1, aI cI a_factOf 5 v_factOf, aI cI a_question 16 v_question, aI cZ a_stack 17 v_stack, aI cI a_yesOf 931 v_yesOf, aI cI a_noOf 931 v_noOf, aI cI a_two 7 v_two, aI cI a_three 7 v_three] s.heap.size = A at hD hG ⊢
  have hA : ∀ q : Nat, s.heap.size ≤ q → A q := fun q h => by rw [← hAe]; exact Or.inr h
  have hS : va_S A s.heap s.heap [] := va_S.rf
  have hl := lv_entry ([.ref a_th, .ref a_p1, .int p_2, .int p_3]) (n := 6) (Nat.le_of_ble_eq_true rfl)
  rw [lg_entry_eq]
  generalize (lg_sl ([.ref a_th, .ref a_p1, .int p_2, .int p_3]) ++ List.replicate (6 - (lg_sl ([.ref a_th, .ref a_p1, .int p_2, .int p_3])).length) Slot.unset).toArray = ls at hl ⊢
  have hl : lv_has ls 6 [(0, .ref a_th), (1, .ref a_p1), (2, .int p_2), (3, .int p_3)] := hl
  have iX10 : ∀ w ∈ wsX100, w ∈ wsX10_inTwo := fun _ h => List.mem_cons_of_mem _ (List.mem_append_right _ h)
  refine kb_gen (fun Q hQ => ?_)
  unfold m_X10_inTwo at hm
  refine lv_aload_n hx hb dX10_inTwo_0 rfl (lv_at hl 0 rfl) ?_
  refine lv_aload_n hx hb dX10_inTwo_1 rfl (lv_at hl 1 rfl) ?_
  refine lv_iload_n hx hb dX10_inTwo_2 rfl (lv_at hl 3 rfl) ?_
  obtain ⟨r1, ho2, hm⟩ := bd1_s hm
  refine kb_calli (Rv := r1) (va_runV (As := [.ref a_p1, .int p_3]) (rest := []) ⟨hx, hb, hml, hown, hts⟩ (c_X10_isTold l dC dI cI cJ cZ cQ t s.heap.size a_th a_p1 a_factOf n_p1 q_text (.ref a_question) q_page q_book q_bookSeed q_kept q_isKept q_toldSimple q_toldDay q_toldYes (.ref a_yesOf) (.ref a_noOf) (.ref a_stack) q_one (.ref a_two) (.ref a_three) v_thrown v_textSize v_place v_questionSize v_facts v_isSo v_common v_readFacts v_readSo v_readCommon v_readDay v_seed v_acts v_told v_p1 v_factOf p_3 (r1) ho2) (cwV 2 hts gX10_inTwo_X10_isTold rfl rfl rfl (by decide +kernel) ⟨(Nat.le_of_ble_eq_true rfl), (Nat.le_of_ble_eq_true rfl)⟩) ⟨(kb_pre hK hG hP (kb_D hD rfl) hS hA [0, 1, 2] rfl (by decide)).1, (va_recv hK hP (ci := 8) (q0 := 0) rfl rfl), (kb_pre hK hG hP (kb_D hD rfl) hS hA [0, 1, 2] rfl (by decide)).2⟩ rfl rfl hl.1 rfl (lv_room (Nat.le_of_ble_eq_true rfl)) dX10_inTwo_3 ⟨Nat.zero_le _, Nat.zero_le _⟩) hP (kb_D hD rfl) hS hA [0, 1, 2] rfl [(true, 0), (true, 1), (true, 2), (false, 3), (false, 4), (false, 5), (false, 6), (false, 7), (false, 8)] (w2 := [oX10 a_th (.int v_thrown) q_text (.int v_textSize) (.int v_place) (.ref a_question) (.int v_questionSize) (.int v_facts) (.int v_isSo) (.int v_common) (.int v_readFacts) (.int v_readSo) (.int v_readCommon) (.int v_readDay) q_page (.long v_seed) q_book q_bookSeed (.int v_acts) q_kept q_isKept (.int v_told) q_toldSimple q_toldDay q_toldYes (.ref a_yesOf) (.ref a_noOf) (.ref a_factOf) (.ref a_stack) q_one (.ref a_two) (.ref a_three), aI cI a_p1 n_p1 v_p1, aI cI a_factOf 5 v_factOf, aI cI a_question 16 v_question, aI cZ a_stack 17 v_stack, aI cI a_yesOf 931 v_yesOf, aI cI a_noOf 931 v_noOf, aI cI a_two 7 v_two, aI cI a_three 7 v_three]) rfl (by decide) (fun H locs hP hS => ?_)
  refine lv_istore (lv' := [(4, .int r1), (0, .ref a_th), (1, .ref a_p1), (2, .int p_2), (3, .int p_3)]) hx hb dX10_inTwo_6 hl (by decide) rfl (fun ls hl => ?_)
  refine lv_iconst (v := (0 : Int32)) hx hb dX10_inTwo_8 (by decide) ?_
  refine lv_istore (lv' := [(5, .int (0 : Int32)), (4, .int r1), (0, .ref a_th), (1, .ref a_p1), (2, .int p_2), (3, .int p_3)]) hx hb dX10_inTwo_9 hl (by decide) rfl (fun ls hl => ?_)
  have lp11 : ∀ (n11 : Nat) (x3 : Int32) (x4 : Int32) (w5 : (Nat → Int32)) (w6 : (Nat → Int32)) (w7 : (Nat → Int32)) (k11 : Int32 → (Nat → Int32) → (Nat → Int32) → (Nat → Int32) → Option (Int32 × (Nat → Int32) × (Nat → Int32) × (Nat → Int32))) (H : Heap) (locs : List Loc) (ls : Array Slot), L_X10_inTwo_11 v_questionSize v_facts v_p1 v_factOf v_question v_yesOf v_noOf p_2 p_3 n_p1 n11 x3 x4 w5 w6 w7 k11 = some o → (∀ (x8 : Int32) (w9 : (Nat → Int32)) (w10 : (Nat → Int32)) (w11 : (Nat → Int32)) (H : Heap) (locs : List Loc) (ls : Array Slot), k11 x8 w9 w10 w11 = some o → va_P (dC, dI) vwCl [oX10 a_th (.int v_thrown) q_text (.int v_textSize) (.int v_place) (.ref a_question) (.int v_questionSize) (.int v_facts) (.int v_isSo) (.int v_common) (.int v_readFacts) (.int v_readSo) (.int v_readCommon) (.int v_readDay) q_page (.long v_seed) q_book q_bookSeed (.int v_acts) q_kept q_isKept (.int v_told) q_toldSimple q_toldDay q_toldYes (.ref a_yesOf) (.ref a_noOf) (.ref a_factOf) (.ref a_stack) q_one (.ref a_two) (.ref a_three), aI cI a_p1 n_p1 v_p1, aI cI a_factOf 5 v_factOf, aI cI a_question 16 v_question, aI cZ a_stack 17 w9, aI cI a_yesOf 931 v_yesOf, aI cI a_noOf 931 v_noOf, aI cI a_two 7 w10, aI cI a_three 7 w11] H → va_S A s.heap H locs → lv_has ls 6 [(4, .int x8)] → W p l e (headSpec wsX10_inTwo { frames := 8, cells := 0, slots := 0, locals := 209 }).room s m [.ref a_th, .ref a_p1, .int p_2, .int p_3].toArray below meth c H locs 0 0 Q (F0 m 57 ls [])) → va_P (dC, dI) vwCl [oX10 a_th (.int v_thrown) q_text (.int v_textSize) (.int v_place) (.ref a_question) (.int v_questionSize) (.int v_facts) (.int v_isSo) (.int v_common) (.int v_readFacts) (.int v_readSo) (.int v_readCommon) (.int v_readDay) q_page (.long v_seed) q_book q_bookSeed (.int v_acts) q_kept q_isKept (.int v_told) q_toldSimple q_toldDay q_toldYes (.ref a_yesOf) (.ref a_noOf) (.ref a_factOf) (.ref a_stack) q_one (.ref a_two) (.ref a_three), aI cI a_p1 n_p1 v_p1, aI cI a_factOf 5 v_factOf, aI cI a_question 16 v_question, aI cZ a_stack 17 w5, aI cI a_yesOf 931 v_yesOf, aI cI a_noOf 931 v_noOf, aI cI a_two 7 w6, aI cI a_three 7 w7] H → va_S A s.heap H locs → lv_has ls 6 [(0, .ref a_th), (1, .ref a_p1), (2, .int p_2), (3, .int p_3), (4, .int x3), (5, .int x4)] → W p l e (headSpec wsX10_inTwo { frames := 8, cells := 0, slots := 0, locals := 209 }).room s m [.ref a_th, .ref a_p1, .int p_2, .int p_3].toArray below meth c H locs 0 0 Q (F0 m 11 ls []) := by
    intro n11
    induction n11 with
    | zero =>
      intro x3 x4 w5 w6 w7 k11 H locs ls hm
      cases (show (none : Option (Int32 × (Nat → Int32) × (Nat → Int32) × (Nat → Int32))) = some o from hm)
    | succ n11 ih11 =>
      intro x3 x4 w5 w6 w7 k11 H locs ls hm hk11 hP hS hl
      rw [L_X10_inTwo_11.eq_2] at hm
      refine lv_iload hx hb dX10_inTwo_11 (lv_at hl 5 rfl) ?_
      refine lv_bipush (v := (19 : Int32)) hx hb dX10_inTwo_13 (by decide) ?_
      refine lv_icmp_ge (tgt := 57) hx hb dX10_inTwo_15 (by decide) (fun c12 => ?_) (fun c12 => ?_)
      · replace hm := ite_t c12 hm
        exact hk11 x3 w5 w6 w7 _ _ _ hm hP hS (lv_sub hl [4] rfl)
      · replace hm := ite_f c12 hm
        refine lv_iload hx hb dX10_inTwo_18 (lv_at hl 4 rfl) ?_
        refine lv_if_ne (tgt := 57) hx hb dX10_inTwo_20 (by decide) (fun c13 => ?_) (fun c13 => ?_)
        · replace hm := ite_f c13 hm
          exact hk11 x3 w5 w6 w7 _ _ _ hm hP hS (lv_sub hl [4] rfl)
        · replace hm := ite_t c13 hm
          refine lv_aload_n hx hb dX10_inTwo_23 rfl (lv_at hl 0 rfl) ?_
          refine lv_iload hx hb dX10_inTwo_24 (lv_at hl 5 rfl) ?_
          obtain ⟨r14, ho15, hm⟩ := bd1_s hm
          refine kb_calli (Rv := r14) (va_runV (As := [.int x4]) (rest := []) ⟨hx, hb, hml, hown, hts⟩ (c_X10_noSimple l dC dI cI cJ cZ cQ t H.size a_th q_text (.ref a_question) q_page q_book q_bookSeed q_kept q_isKept q_toldSimple q_toldDay q_toldYes (.ref a_yesOf) (.ref a_noOf) (.ref a_factOf) (.ref a_stack) q_one (.ref a_two) (.ref a_three) v_thrown v_textSize v_place v_questionSize v_facts v_isSo v_common v_readFacts v_readSo v_readCommon v_readDay v_seed v_acts v_told x4 (r14) ho15) (cwV 1 hts gX10_inTwo_X10_noSimple rfl rfl rfl (by decide +kernel) ⟨(Nat.le_of_ble_eq_true rfl), (Nat.le_of_ble_eq_true rfl)⟩) ⟨(kb_pre hK hG hP (kb_D hD rfl) hS hA [0] rfl (by decide)).1, (va_recv hK hP (ci := 8) (q0 := 0) rfl rfl), (kb_pre hK hG hP (kb_D hD rfl) hS hA [0] rfl (by decide)).2⟩ rfl rfl hl.1 rfl (lv_room (Nat.le_of_ble_eq_true rfl)) dX10_inTwo_26 ⟨Nat.zero_le _, Nat.zero_le _⟩) hP (kb_D hD rfl) hS hA [0] rfl [(true, 0), (false, 1), (false, 2), (false, 3), (false, 4), (false, 5), (false, 6), (false, 7), (false, 8)] (w2 := [oX10 a_th (.int v_thrown) q_text (.int v_textSize) (.int v_place) (.ref a_question) (.int v_questionSize) (.int v_facts) (.int v_isSo) (.int v_common) (.int v_readFacts) (.int v_readSo) (.int v_readCommon) (.int v_readDay) q_page (.long v_seed) q_book q_bookSeed (.int v_acts) q_kept q_isKept (.int v_told) q_toldSimple q_toldDay q_toldYes (.ref a_yesOf) (.ref a_noOf) (.ref a_factOf) (.ref a_stack) q_one (.ref a_two) (.ref a_three), aI cI a_p1 n_p1 v_p1, aI cI a_factOf 5 v_factOf, aI cI a_question 16 v_question, aI cZ a_stack 17 w5, aI cI a_yesOf 931 v_yesOf, aI cI a_noOf 931 v_noOf, aI cI a_two 7 w6, aI cI a_three 7 w7]) rfl (by decide) (fun H locs hP hS => ?_)
          obtain ⟨k49, ek49, hm⟩ := nm_s hm
          have J49 : ∀ (x16 : Int32) (w17 : (Nat → Int32)) (w18 : (Nat → Int32)) (w19 : (Nat → Int32)) (H : Heap) (locs : List Loc) (ls : Array Slot), k49 x16 w17 w18 w19 = some o → va_P (dC, dI) vwCl [oX10 a_th (.int v_thrown) q_text (.int v_textSize) (.int v_place) (.ref a_question) (.int v_questionSize) (.int v_facts) (.int v_isSo) (.int v_common) (.int v_readFacts) (.int v_readSo) (.int v_readCommon) (.int v_readDay) q_page (.long v_seed) q_book q_bookSeed (.int v_acts) q_kept q_isKept (.int v_told) q_toldSimple q_toldDay q_toldYes (.ref a_yesOf) (.ref a_noOf) (.ref a_factOf) (.ref a_stack) q_one (.ref a_two) (.ref a_three), aI cI a_p1 n_p1 v_p1, aI cI a_factOf 5 v_factOf, aI cI a_question 16 v_question, aI cZ a_stack 17 w17, aI cI a_yesOf 931 v_yesOf, aI cI a_noOf 931 v_noOf, aI cI a_two 7 w18, aI cI a_three 7 w19] H → va_S A s.heap H locs → lv_has ls 6 [(0, .ref a_th), (1, .ref a_p1), (2, .int p_2), (3, .int p_3), (5, .int x4)] → W p l e (headSpec wsX10_inTwo { frames := 8, cells := 0, slots := 0, locals := 209 }).room s m [.ref a_th, .ref a_p1, .int p_2, .int p_3].toArray below meth c H locs 0 0 Q (F0 m 49 ls [.int x16]) := by
            intro x16 w17 w18 w19 H locs ls hm hP hS hl
            rw [ek49] at hm
            refine lv_istore (lv' := [(4, .int x16), (0, .ref a_th), (1, .ref a_p1), (2, .int p_2), (3, .int p_3), (5, .int x4)]) hx hb dX10_inTwo_49 hl (by decide) rfl (fun ls hl => ?_)
            obtain ⟨x20, ex20⟩ : ∃ y : Int32, y = x4 + (1 : Int32) := ⟨_, rfl⟩
            replace hm := nm_t ex20 hm
            refine lv_iinc (v := x20) (lv' := [(5, .int x20), (4, .int x16), (0, .ref a_th), (1, .ref a_p1), (2, .int p_2), (3, .int p_3)]) hx hb dX10_inTwo_51 hl (k := 5) rfl (by rw [ex20]; rfl) (by decide) rfl (fun ls hl => ?_)
            refine lv_goto (tgt := 11) hx hb dX10_inTwo_54 (by decide) ?_
            exact ih11 x16 x20 w17 w18 w19 k11 _ _ _ hm hk11 hP hS (lv_sub hl [2, 3, 4, 5, 1, 0] rfl)
          obtain ⟨k48, ek48, hm⟩ := nm_s hm
          have J48 : ∀ (w21 : (Nat → Int32)) (w22 : (Nat → Int32)) (w23 : (Nat → Int32)) (H : Heap) (locs : List Loc) (ls : Array Slot), k48 w21 w22 w23 = some o → va_P (dC, dI) vwCl [oX10 a_th (.int v_thrown) q_text (.int v_textSize) (.int v_place) (.ref a_question) (.int v_questionSize) (.int v_facts) (.int v_isSo) (.int v_common) (.int v_readFacts) (.int v_readSo) (.int v_readCommon) (.int v_readDay) q_page (.long v_seed) q_book q_bookSeed (.int v_acts) q_kept q_isKept (.int v_told) q_toldSimple q_toldDay q_toldYes (.ref a_yesOf) (.ref a_noOf) (.ref a_factOf) (.ref a_stack) q_one (.ref a_two) (.ref a_three), aI cI a_p1 n_p1 v_p1, aI cI a_factOf 5 v_factOf, aI cI a_question 16 v_question, aI cZ a_stack 17 w21, aI cI a_yesOf 931 v_yesOf, aI cI a_noOf 931 v_noOf, aI cI a_two 7 w22, aI cI a_three 7 w23] H → va_S A s.heap H locs → lv_has ls 6 [(0, .ref a_th), (1, .ref a_p1), (2, .int p_2), (3, .int p_3), (5, .int x4)] → W p l e (headSpec wsX10_inTwo { frames := 8, cells := 0, slots := 0, locals := 209 }).room s m [.ref a_th, .ref a_p1, .int p_2, .int p_3].toArray below meth c H locs 0 0 Q (F0 m 48 ls []) := by
            intro w21 w22 w23 H locs ls hm hP hS hl
            rw [ek48] at hm
            refine lv_iconst (v := (0 : Int32)) hx hb dX10_inTwo_48 (by decide) ?_
            exact J49 (0 : Int32) w21 w22 w23 _ _ _ hm hP hS (lv_sub hl [0, 1, 2, 3, 4] rfl)
          refine lv_if_ne (tgt := 48) hx hb dX10_inTwo_29 (by decide) (fun c24 => ?_) (fun c24 => ?_)
          · replace hm := ite_f c24 hm
            exact J48 w5 w6 w7 _ _ _ hm hP hS (lv_sub hl [0, 1, 2, 3, 5] rfl)
          · replace hm := ite_t c24 hm
            refine lv_aload_n hx hb dX10_inTwo_32 rfl (lv_at hl 0 rfl) ?_
            refine lv_aload_n hx hb dX10_inTwo_33 rfl (lv_at hl 1 rfl) ?_
            refine lv_iload hx hb dX10_inTwo_34 (lv_at hl 5 rfl) ?_
            refine lv_iload_n hx hb dX10_inTwo_36 rfl (lv_at hl 2 rfl) ?_
            refine lv_iload_n hx hb dX10_inTwo_37 rfl (lv_at hl 3 rfl) ?_
            obtain ⟨r25, w26, w27, w28, ho29, hm⟩ := bd4_s hm
            refine kb_calli (Rv := r25) (va_runV (As := [.ref a_p1, .int x4, .int p_2, .int p_3]) (rest := []) ⟨hx, hb, hml, hown, hts⟩ (c_X10_doesTwo l dC dI cI cJ cZ cQ t H.size a_th a_p1 a_question a_stack a_yesOf a_noOf a_two a_factOf a_three n_p1 q_text q_page q_book q_bookSeed q_kept q_isKept q_toldSimple q_toldDay q_toldYes q_one v_thrown v_textSize v_place v_questionSize v_facts v_isSo v_common v_readFacts v_readSo v_readCommon v_readDay v_seed v_acts v_told v_p1 v_question w5 v_yesOf v_noOf w6 v_factOf w7 x4 p_2 p_3 (r25, w26, w27, w28) ho29) (cwV 4 hts gX10_inTwo_X10_doesTwo rfl rfl rfl (by decide +kernel) ⟨(Nat.le_of_ble_eq_true rfl), (Nat.le_of_ble_eq_true rfl)⟩) ⟨(kb_pre hK hG hP (kb_D hD rfl) hS hA [0, 1, 3, 4, 5, 6, 7, 2, 8] rfl (by decide)).1, (va_recv hK hP (ci := 8) (q0 := 0) rfl rfl), (kb_pre hK hG hP (kb_D hD rfl) hS hA [0, 1, 3, 4, 5, 6, 7, 2, 8] rfl (by decide)).2⟩ rfl rfl hl.1 rfl (lv_room (Nat.le_of_ble_eq_true rfl)) dX10_inTwo_38 ⟨Nat.zero_le _, Nat.zero_le _⟩) hP (kb_D hD rfl) hS hA [0, 1, 3, 4, 5, 6, 7, 2, 8] rfl [(true, 0), (true, 1), (true, 7), (true, 2), (true, 3), (true, 4), (true, 5), (true, 6), (true, 8)] (w2 := [oX10 a_th (.int v_thrown) q_text (.int v_textSize) (.int v_place) (.ref a_question) (.int v_questionSize) (.int v_facts) (.int v_isSo) (.int v_common) (.int v_readFacts) (.int v_readSo) (.int v_readCommon) (.int v_readDay) q_page (.long v_seed) q_book q_bookSeed (.int v_acts) q_kept q_isKept (.int v_told) q_toldSimple q_toldDay q_toldYes (.ref a_yesOf) (.ref a_noOf) (.ref a_factOf) (.ref a_stack) q_one (.ref a_two) (.ref a_three), aI cI a_p1 n_p1 v_p1, aI cI a_factOf 5 v_factOf, aI cI a_question 16 v_question, aI cZ a_stack 17 w26, aI cI a_yesOf 931 v_yesOf, aI cI a_noOf 931 v_noOf, aI cI a_two 7 w27, aI cI a_three 7 w28]) rfl (by decide) (fun H locs hP hS => ?_)
            refine lv_if_eq (tgt := 48) hx hb dX10_inTwo_41 (by decide) (fun c30 => ?_) (fun c30 => ?_)
            · replace hm := ite_t c30 hm
              exact J48 w26 w27 w28 _ _ _ hm hP hS (lv_sub hl [0, 1, 2, 3, 5] rfl)
            · replace hm := ite_f c30 hm
              refine lv_iconst (v := (1 : Int32)) hx hb dX10_inTwo_44 (by decide) ?_
              refine lv_goto (tgt := 49) hx hb dX10_inTwo_45 (by decide) ?_
              exact J49 (1 : Int32) w26 w27 w28 _ _ _ hm hP hS (lv_sub hl [0, 1, 2, 3, 5] rfl)
  refine lp11 1024 r1 (0 : Int32) v_stack v_two v_three _ _ _ _ hm (fun x8 w9 w10 w11 H locs ls hm hP hS hl => ?_) hP hS (lv_sub hl [2, 3, 4, 5, 1, 0] rfl)
  refine lv_iload hx hb dX10_inTwo_57 (lv_at hl 0 rfl) ?_
  obtain ⟨h31, hm⟩ := gd_s hm
  obtain rfl := Option.some.inj hm
  subst hQ
  exact W.zret hx hb hr (zB_n h31) (fun t ht hW => ⟨⟨_, (), rfl, rfl, kb_h hP ht⟩, hS.F ht⟩) hS.2.2 dX10_inTwo_59
