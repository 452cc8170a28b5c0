set_option maxHeartbeats 4000000 in
set_option maxRecDepth 100000 in
theorem c_X10_doesThree (l : Launch) (dC : Nat → ClassId) (dI : Nat → Nat → Nat) (cI cJ cZ cQ : ClassId) (t sz : Nat) (a_th : Nat) (a_p1 : Nat) (a_question : Nat) (a_stack : Nat) (a_yesOf : Nat) (a_noOf : Nat) (a_one : Nat) (a_factOf : Nat) (a_two : Nat) (a_three : Nat) (n_p1 : Nat) (q_text : Value) (q_page : Value) (q_book : Value) (q_bookSeed : Value) (q_kept : Value) (q_isKept : Value) (q_toldSimple : Value) (q_toldDay : Value) (q_toldYes : Value) (v_thrown : Int32) (v_textSize : Int32) (v_place : Int32) (v_questionSize : Int32) (v_facts : Int32) (v_isSo : Int32) (v_common : Int32) (v_readFacts : Int32) (v_readSo : Int32) (v_readCommon : Int32) (v_readDay : Int32) (v_seed : Int64) (v_acts : Int32) (v_told : Int32) (v_p1 : (Nat → Int32)) (v_question : (Nat → Int32)) (v_stack : (Nat → Int32)) (v_yesOf : (Nat → Int32)) (v_noOf : (Nat → Int32)) (v_one : (Nat → Int32)) (v_factOf : (Nat → Int32)) (v_two : (Nat → Int32)) (v_three : (Nat → Int32)) (p_2 : Int32) (p_3 : Int32) (p_4 : Int32) (o : Int32 × (Nat → Int32) × (Nat → Int32) × (Nat → Int32) × (Nat → Int32)) (hm : m_X10_doesThree p_2 p_3 p_4 n_p1 v_questionSize v_facts v_p1 v_question v_stack v_yesOf v_noOf v_one v_factOf v_two v_three = some o) : Met l yX10_doesThree wsX10_doesThree { frames := 9, cells := 0, slots := 0, locals := 234 } (va_Pc [.ref a_th, .ref a_p1, .int p_2, .int p_3, .int p_4] (cP (dC, dI) (kT cI cJ cZ cQ) t sz [oX10 a_th (.int v_thrown) q_text (.int v_textSize) (.int v_place) (.ref a_question) (.int v_questionSize) (.int v_facts) (.int v_isSo) (.int v_common) (.int v_readFacts) (.int v_readSo) (.int v_readCommon) (.int v_readDay) q_page (.long v_seed) q_book q_bookSeed (.int v_acts) q_kept q_isKept (.int v_told) q_toldSimple q_toldDay q_toldYes (.ref a_yesOf) (.ref a_noOf) (.ref a_factOf) (.ref a_stack) (.ref a_one) (.ref a_two) (.ref a_three), aI cI a_p1 n_p1 v_p1, aI cI a_question 16 v_question, aI cZ a_stack 17 v_stack, aI cI a_yesOf 931 v_yesOf, aI cI a_noOf 931 v_noOf, aI cI a_one 7 v_one, aI cI a_factOf 5 v_factOf, aI cI a_two 7 v_two, aI cI a_three 7 v_three])) (cQi (dC, dI) (va_A [oX10 a_th (.int v_thrown) q_text (.int v_textSize) (.int v_place) (.ref a_question) (.int v_questionSize) (.int v_facts) (.int v_isSo) (.int v_common) (.int v_readFacts) (.int v_readSo) (.int v_readCommon) (.int v_readDay) q_page (.long v_seed) q_book q_bookSeed (.int v_acts) q_kept q_isKept (.int v_told) q_toldSimple q_toldDay q_toldYes (.ref a_yesOf) (.ref a_noOf) (.ref a_factOf) (.ref a_stack) (.ref a_one) (.ref a_two) (.ref a_three), aI cI a_p1 n_p1 v_p1, aI cI a_question 16 v_question, aI cZ a_stack 17 v_stack, aI cI a_yesOf 931 v_yesOf, aI cI a_noOf 931 v_noOf, aI cI a_one 7 v_one, aI cI a_factOf 5 v_factOf, aI cI a_two 7 v_two, aI cI a_three 7 v_three] sz) o.1 [oX10 a_th (.int v_thrown) q_text (.int v_textSize) (.int v_place) (.ref a_question) (.int v_questionSize) (.int v_facts) (.int v_isSo) (.int v_common) (.int v_readFacts) (.int v_readSo) (.int v_readCommon) (.int v_readDay) q_page (.long v_seed) q_book q_bookSeed (.int v_acts) q_kept q_isKept (.int v_told) q_toldSimple q_toldDay q_toldYes (.ref a_yesOf) (.ref a_noOf) (.ref a_factOf) (.ref a_stack) (.ref a_one) (.ref a_two) (.ref a_three), aI cI a_p1 n_p1 v_p1, aI cI a_question 16 v_question, aI cZ a_stack 17 (o.2.1), aI cI a_yesOf 931 v_yesOf, aI cI a_noOf 931 v_noOf, aI cI a_one 7 (o.2.2.1), aI cI a_factOf 5 v_factOf, aI cI a_two 7 (o.2.2.2.1), aI cI a_three 7 (o.2.2.2.2)]) 0 0 (va_A [oX10 a_th (.int v_thrown) q_text (.int v_textSize) (.int v_place) (.ref a_question) (.int v_questionSize) (.int v_facts) (.int v_isSo) (.int v_common) (.int v_readFacts) (.int v_readSo) (.int v_readCommon) (.int v_readDay) q_page (.long v_seed) q_book q_bookSeed (.int v_acts) q_kept q_isKept (.int v_told) q_toldSimple q_toldDay q_toldYes (.ref a_yesOf) (.ref a_noOf) (.ref a_factOf) (.ref a_stack) (.ref a_one) (.ref a_two) (.ref a_three), aI cI a_p1 n_p1 v_p1, aI cI a_question 16 v_question, aI cZ a_stack 17 v_stack, aI cI a_yesOf 931 v_yesOf, aI cI a_noOf 931 v_noOf, aI cI a_one 7 v_one, aI cI a_factOf 5 v_factOf, aI cI a_two 7 v_two, aI cI a_three 7 v_three] sz) := by
  refine Met.ofW (cc := cX10_doesThree) (maxL := 7) (ret := (some .boolean)) (by decide) rfl ?_
  intro p e s m args below meth c s₁ B hml hv
  obtain ⟨rfl, hsz, hP, hK, hD0, hG⟩ := hv
  have hx := B.exec
  have hb := B.bytes
  have hr := B.returns
  have hts := atoms_spec (ws := wsX10_doesThree) B.pre
  have hown : s.vm.findClass RX10 = some m.cls := findClass_of_methodNamed B.named
  have hlocks := B.notSynchronized
  subst hsz
  have hD := hD0.self (sz := s.heap.size)
  generalize hAe : va_A [oX10 a_th (.int v_thrown) q_text (.int v_textSize) (.int v_place) (.ref a_question) (.int v_questionSize) (.int v_facts) (.int v_isSo) (.int v_common) (.int v_readFacts) (.int v_readSo) (.int v_readCommon) (.int v_readDay) q_page (.long v_seed) q_book q_bookSeed (.int v_acts) q_kept q_isKept (.int v_told) q_toldSimple q_toldDay q_toldYes (.ref a_yesOf) (.ref a_noOf) (.ref a_factOf) (.ref a_stack) (.ref a_one) (.ref a_two) (.ref a_three), aI cI a_p1 n_p1 v_p1, aI cI a_question 16 v_question, aI cZ a_stack 17 v_stack, aI cI a_yesOf 931 v_yesOf, aI cI a_noOf 931 v_noOf, aI cI a_one 7 v_one, aI cI a_factOf 5 v_factOf, aI cI a_two 7 v_two, aI cI a_three 7 v_three] s.heap.size = A at hD hG ⊢
  have hA : ∀ q : Nat, s.heap.size ≤ q → A q := fun q h => by rw [← hAe]; exact Or.inr h
  have hS : va_S A s.heap s.heap [] := va_S.rf
  have hl := lv_entry ([.ref a_th, .ref a_p1, .int p_2, .int p_3, .int p_4]) (n := 7) (Nat.le_of_ble_eq_true rfl)
  rw [lg_entry_eq]
  generalize (lg_sl ([.ref a_th, .ref a_p1, .int p_2, .int p_3, .int p_4]) ++ List.replicate (7 - (lg_sl ([.ref a_th, .ref a_p1, .int p_2, .int p_3, .int p_4])).length) Slot.unset).toArray = ls at hl ⊢
  have hl : lv_has ls 7 [(0, .ref a_th), (1, .ref a_p1), (2, .int p_2), (3, .int p_3), (4, .int p_4)] := hl
  have iX10 : ∀ w ∈ wsX100, w ∈ wsX10_doesThree := fun _ h => List.mem_cons_of_mem _ (List.mem_append_right _ h)
  have f54 := hts (.fieldLink RX10 54 "TrueOnceWeekModel" "one" "[I") (by decide +kernel)
  refine kb_gen (fun Q hQ => ?_)
  unfold m_X10_doesThree at hm
  refine lv_iconst (v := (1 : Int32)) hx hb dX10_doesThree_0 (by decide) ?_
  refine lv_istore (lv' := [(5, .int (1 : Int32)), (0, .ref a_th), (1, .ref a_p1), (2, .int p_2), (3, .int p_3), (4, .int p_4)]) hx hb dX10_doesThree_1 hl (by decide) rfl (fun ls hl => ?_)
  refine lv_iconst (v := (0 : Int32)) hx hb dX10_doesThree_3 (by decide) ?_
  refine lv_istore (lv' := [(6, .int (0 : Int32)), (5, .int (1 : Int32)), (0, .ref a_th), (1, .ref a_p1), (2, .int p_2), (3, .int p_3), (4, .int p_4)]) hx hb dX10_doesThree_4 hl (by decide) rfl (fun ls hl => ?_)
  have lp6 : ∀ (n6 : Nat) (x1 : Int32) (x2 : Int32) (w3 : (Nat → Int32)) (w4 : (Nat → Int32)) (w5 : (Nat → Int32)) (w6 : (Nat → Int32)) (k6 : Int32 → (Nat → Int32) → (Nat → Int32) → (Nat → Int32) → (Nat → Int32) → Option (Int32 × (Nat → Int32) × (Nat → Int32) × (Nat → Int32) × (Nat → Int32))) (H : Heap) (locs : List Loc) (ls : Array Slot), L_X10_doesThree_6 v_questionSize v_facts v_p1 v_question v_yesOf v_noOf v_factOf p_2 p_3 p_4 n_p1 n6 x1 x2 w3 w4 w5 w6 k6 = some o → (∀ (x7 : Int32) (w8 : (Nat → Int32)) (w9 : (Nat → Int32)) (w10 : (Nat → Int32)) (w11 : (Nat → Int32)) (H : Heap) (locs : List Loc) (ls : Array Slot), k6 x7 w8 w9 w10 w11 = some o → va_P (dC, dI) vwCl [oX10 a_th (.int v_thrown) q_text (.int v_textSize) (.int v_place) (.ref a_question) (.int v_questionSize) (.int v_facts) (.int v_isSo) (.int v_common) (.int v_readFacts) (.int v_readSo) (.int v_readCommon) (.int v_readDay) q_page (.long v_seed) q_book q_bookSeed (.int v_acts) q_kept q_isKept (.int v_told) q_toldSimple q_toldDay q_toldYes (.ref a_yesOf) (.ref a_noOf) (.ref a_factOf) (.ref a_stack) (.ref a_one) (.ref a_two) (.ref a_three), aI cI a_p1 n_p1 v_p1, aI cI a_question 16 v_question, aI cZ a_stack 17 w8, aI cI a_yesOf 931 v_yesOf, aI cI a_noOf 931 v_noOf, aI cI a_one 7 w9, aI cI a_factOf 5 v_factOf, aI cI a_two 7 w10, aI cI a_three 7 w11] H → va_S A s.heap H locs → lv_has ls 7 [(5, .int x7)] → W p l e (headSpec wsX10_doesThree { frames := 9, cells := 0, slots := 0, locals := 234 }).room s m [.ref a_th, .ref a_p1, .int p_2, .int p_3, .int p_4].toArray below meth c H locs 0 0 Q (F0 m 54 ls [])) → va_P (dC, dI) vwCl [oX10 a_th (.int v_thrown) q_text (.int v_textSize) (.int v_place) (.ref a_question) (.int v_questionSize) (.int v_facts) (.int v_isSo) (.int v_common) (.int v_readFacts) (.int v_readSo) (.int v_readCommon) (.int v_readDay) q_page (.long v_seed) q_book q_bookSeed (.int v_acts) q_kept q_isKept (.int v_told) q_toldSimple q_toldDay q_toldYes (.ref a_yesOf) (.ref a_noOf) (.ref a_factOf) (.ref a_stack) (.ref a_one) (.ref a_two) (.ref a_three), aI cI a_p1 n_p1 v_p1, aI cI a_question 16 v_question, aI cZ a_stack 17 w3, aI cI a_yesOf 931 v_yesOf, aI cI a_noOf 931 v_noOf, aI cI a_one 7 w4, aI cI a_factOf 5 v_factOf, aI cI a_two 7 w5, aI cI a_three 7 w6] H → va_S A s.heap H locs → lv_has ls 7 [(0, .ref a_th), (1, .ref a_p1), (2, .int p_2), (3, .int p_3), (4, .int p_4), (5, .int x1), (6, .int x2)] → W p l e (headSpec wsX10_doesThree { frames := 9, cells := 0, slots := 0, locals := 234 }).room s m [.ref a_th, .ref a_p1, .int p_2, .int p_3, .int p_4].toArray below meth c H locs 0 0 Q (F0 m 6 ls []) := by
    intro n6
    induction n6 with
    | zero =>
      intro x1 x2 w3 w4 w5 w6 k6 H locs ls hm
      cases (show (none : Option (Int32 × (Nat → Int32) × (Nat → Int32) × (Nat → Int32) × (Nat → Int32))) = some o from hm)
    | succ n6 ih6 =>
      intro x1 x2 w3 w4 w5 w6 k6 H locs ls hm hk6 hP hS hl
      rw [L_X10_doesThree_6.eq_2] at hm
      refine lv_iload hx hb dX10_doesThree_6 (lv_at hl 6 rfl) ?_
      refine lv_iconst (v := (3 : Int32)) hx hb dX10_doesThree_8 (by decide) ?_
      refine lv_icmp_ge (tgt := 54) hx hb dX10_doesThree_9 (by decide) (fun c12 => ?_) (fun c12 => ?_)
      · replace hm := ite_t c12 hm
        exact hk6 x1 w3 w4 w5 w6 _ _ _ hm hP hS (lv_sub hl [5] rfl)
      · replace hm := ite_f c12 hm
        refine lv_iload hx hb dX10_doesThree_12 (lv_at hl 5 rfl) ?_
        refine lv_if_eq (tgt := 54) hx hb dX10_doesThree_14 (by decide) (fun c13 => ?_) (fun c13 => ?_)
        · replace hm := ite_t c13 hm
          exact hk6 x1 w3 w4 w5 w6 _ _ _ hm hP hS (lv_sub hl [5] rfl)
        · replace hm := ite_f c13 hm
          refine lv_aload_n hx hb dX10_doesThree_17 rfl (lv_at hl 0 rfl) ?_
          refine lv_aload_n hx hb dX10_doesThree_18 rfl (lv_at hl 1 rfl) ?_
          refine lv_iload_n hx hb dX10_doesThree_19 rfl (lv_at hl 2 rfl) ?_
          refine lv_iload_n hx hb dX10_doesThree_20 rfl (lv_at hl 3 rfl) ?_
          refine lv_iload hx hb dX10_doesThree_21 (lv_at hl 6 rfl) ?_
          obtain ⟨r14, ho15, hm⟩ := bd1_s hm
          refine kb_calli (Rv := r14) (va_runS (As := [.int x2]) (rest := [.int p_3, .int p_2, .ref a_p1, .ref a_th]) ⟨hx, hb, hml, hown, hts⟩ (c_X10_answerAt l dC dI cI cJ cZ cQ t H.size x2 (r14) ho15) (va_cwS 1 hts gX10_doesThree_X10_answerAt rfl rfl rfl (by decide +kernel) ⟨(Nat.le_of_ble_eq_true rfl), (Nat.le_of_ble_eq_true rfl)⟩) (kb_pre hK hG hP (kb_D hD rfl) hS hA [] rfl (by decide)) rfl rfl hl.1 rfl (lv_room (Nat.le_of_ble_eq_true rfl)) dX10_doesThree_23 ⟨Nat.zero_le _, Nat.zero_le _⟩) hP (kb_D hD rfl) hS hA [] rfl [(false, 0), (false, 1), (false, 2), (false, 3), (false, 4), (false, 5), (false, 6), (false, 7), (false, 8), (false, 9)] (w2 := [oX10 a_th (.int v_thrown) q_text (.int v_textSize) (.int v_place) (.ref a_question) (.int v_questionSize) (.int v_facts) (.int v_isSo) (.int v_common) (.int v_readFacts) (.int v_readSo) (.int v_readCommon) (.int v_readDay) q_page (.long v_seed) q_book q_bookSeed (.int v_acts) q_kept q_isKept (.int v_told) q_toldSimple q_toldDay q_toldYes (.ref a_yesOf) (.ref a_noOf) (.ref a_factOf) (.ref a_stack) (.ref a_one) (.ref a_two) (.ref a_three), aI cI a_p1 n_p1 v_p1, aI cI a_question 16 v_question, aI cZ a_stack 17 w3, aI cI a_yesOf 931 v_yesOf, aI cI a_noOf 931 v_noOf, aI cI a_one 7 w4, aI cI a_factOf 5 v_factOf, aI cI a_two 7 w5, aI cI a_three 7 w6]) rfl (by decide) (fun H locs hP hS => ?_)
          refine lv_aload_n hx hb dX10_doesThree_26 rfl (lv_at hl 0 rfl) ?_
          refine va_get (D := (dC, dI)) (ci := 8) (v := .ref a_one) (C := RX10) (T := TX10) (N := 31) hx hb hts iX10 hown hK hP 0 rfl rfl 28 (by decide) f54 (fun _ h9 => h9) rfl dX10_doesThree_27 ?_
          obtain ⟨w16, w17, ho18, hm⟩ := bd2_s hm
          refine kb_callv (va_runV (As := [.ref a_p1, .int p_2, .int p_3, .int r14, .ref a_one]) (rest := []) ⟨hx, hb, hml, hown, hts⟩ (c_X10_part l dC dI cI cJ cZ cQ t H.size a_th a_p1 a_question a_stack a_yesOf a_noOf a_one n_p1 7 q_text q_page q_book q_bookSeed q_kept q_isKept q_toldSimple q_toldDay q_toldYes (.ref a_factOf) (.ref a_one) (.ref a_two) (.ref a_three) v_thrown v_textSize v_place v_questionSize v_facts v_isSo v_common v_readFacts v_readSo v_readCommon v_readDay v_seed v_acts v_told v_p1 v_question w3 v_yesOf v_noOf w4 p_2 p_3 r14 (w16, w17) ho18) (cwV 5 hts gX10_doesThree_X10_part rfl rfl rfl (by decide +kernel) ⟨(Nat.le_of_ble_eq_true rfl), (Nat.le_of_ble_eq_true rfl)⟩) ⟨(kb_pre hK hG hP (kb_D hD rfl) hS hA [0, 1, 2, 3, 4, 5, 6] rfl (by decide)).1, (va_recv hK hP (ci := 8) (q0 := 0) rfl rfl), (kb_pre hK hG hP (kb_D hD rfl) hS hA [0, 1, 2, 3, 4, 5, 6] rfl (by decide)).2⟩ rfl rfl hl.1 rfl (lv_room (Nat.le_of_ble_eq_true rfl)) dX10_doesThree_30 ⟨Nat.zero_le _, Nat.zero_le _⟩) hP (kb_D hD rfl) hS hA [0, 1, 2, 3, 4, 5, 6] rfl [(true, 0), (true, 1), (true, 2), (true, 3), (true, 4), (true, 5), (true, 6), (false, 7), (false, 8), (false, 9)] (w2 := [oX10 a_th (.int v_thrown) q_text (.int v_textSize) (.int v_place) (.ref a_question) (.int v_questionSize) (.int v_facts) (.int v_isSo) (.int v_common) (.int v_readFacts) (.int v_readSo) (.int v_readCommon) (.int v_readDay) q_page (.long v_seed) q_book q_bookSeed (.int v_acts) q_kept q_isKept (.int v_told) q_toldSimple q_toldDay q_toldYes (.ref a_yesOf) (.ref a_noOf) (.ref a_factOf) (.ref a_stack) (.ref a_one) (.ref a_two) (.ref a_three), aI cI a_p1 n_p1 v_p1, aI cI a_question 16 v_question, aI cZ a_stack 17 w16, aI cI a_yesOf 931 v_yesOf, aI cI a_noOf 931 v_noOf, aI cI a_one 7 w17, aI cI a_factOf 5 v_factOf, aI cI a_two 7 w5, aI cI a_three 7 w6]) rfl (by decide) (fun H locs hP hS => ?_)
          refine lv_aload_n hx hb dX10_doesThree_33 rfl (lv_at hl 0 rfl) ?_
          refine lv_aload_n hx hb dX10_doesThree_34 rfl (lv_at hl 0 rfl) ?_
          refine va_get (D := (dC, dI)) (ci := 8) (v := .ref a_one) (C := RX10) (T := TX10) (N := 31) hx hb hts iX10 hown hK hP 0 rfl rfl 28 (by decide) f54 (fun _ h9 => h9) rfl dX10_doesThree_35 ?_
          refine lv_iload_n hx hb dX10_doesThree_38 rfl (lv_at hl 3 rfl) ?_
          refine lv_iconst (v := (1 : Int32)) hx hb dX10_doesThree_39 (by decide) ?_
          refine lv_iadd hx hb dX10_doesThree_40 ?_
          refine lv_iload hx hb dX10_doesThree_41 (lv_at hl 4 rfl) ?_
          obtain ⟨r19, w20, w21, w22, ho23, hm⟩ := bd4_s hm
          refine kb_calli (Rv := r19) (va_runV (As := [.ref a_one, .int (p_3 + (1 : Int32)), .int p_4]) (rest := []) ⟨hx, hb, hml, hown, hts⟩ (c_X10_inTwo l dC dI cI cJ cZ cQ t H.size a_th a_one a_factOf a_question a_stack a_yesOf a_noOf a_two a_three 7 q_text q_page q_book q_bookSeed q_kept q_isKept q_toldSimple q_toldDay q_toldYes (.ref a_one) v_thrown v_textSize v_place v_questionSize v_facts v_isSo v_common v_readFacts v_readSo v_readCommon v_readDay v_seed v_acts v_told w17 v_factOf v_question w16 v_yesOf v_noOf w5 w6 (p_3 + (1 : Int32)) p_4 (r19, w20, w21, w22) ho23) (cwV 3 hts gX10_doesThree_X10_inTwo rfl rfl rfl (by decide +kernel) ⟨(Nat.le_of_ble_eq_true rfl), (Nat.le_of_ble_eq_true rfl)⟩) ⟨(kb_pre hK hG hP (kb_D hD rfl) hS hA [0, 6, 7, 2, 3, 4, 5, 8, 9] rfl (by decide)).1, (va_recv hK hP (ci := 8) (q0 := 0) rfl rfl), (kb_pre hK hG hP (kb_D hD rfl) hS hA [0, 6, 7, 2, 3, 4, 5, 8, 9] rfl (by decide)).2⟩ rfl rfl hl.1 rfl (lv_room (Nat.le_of_ble_eq_true rfl)) dX10_doesThree_43 ⟨Nat.zero_le _, Nat.zero_le _⟩) hP (kb_D hD rfl) hS hA [0, 6, 7, 2, 3, 4, 5, 8, 9] rfl [(true, 0), (false, 1), (true, 3), (true, 4), (true, 5), (true, 6), (true, 1), (true, 2), (true, 7), (true, 8)] (w2 := [oX10 a_th (.int v_thrown) q_text (.int v_textSize) (.int v_place) (.ref a_question) (.int v_questionSize) (.int v_facts) (.int v_isSo) (.int v_common) (.int v_readFacts) (.int v_readSo) (.int v_readCommon) (.int v_readDay) q_page (.long v_seed) q_book q_bookSeed (.int v_acts) q_kept q_isKept (.int v_told) q_toldSimple q_toldDay q_toldYes (.ref a_yesOf) (.ref a_noOf) (.ref a_factOf) (.ref a_stack) (.ref a_one) (.ref a_two) (.ref a_three), aI cI a_p1 n_p1 v_p1, aI cI a_question 16 v_question, aI cZ a_stack 17 w20, aI cI a_yesOf 931 v_yesOf, aI cI a_noOf 931 v_noOf, aI cI a_one 7 w17, aI cI a_factOf 5 v_factOf, aI cI a_two 7 w21, aI cI a_three 7 w22]) rfl (by decide) (fun H locs hP hS => ?_)
          refine lv_istore (lv' := [(5, .int r19), (0, .ref a_th), (1, .ref a_p1), (2, .int p_2), (3, .int p_3), (4, .int p_4), (6, .int x2)]) hx hb dX10_doesThree_46 hl (by decide) rfl (fun ls hl => ?_)
          obtain ⟨x24, ex24⟩ : ∃ y : Int32, y = x2 + (1 : Int32) := ⟨_, rfl⟩
          replace hm := nm_t ex24 hm
          refine lv_iinc (v := x24) (lv' := [(6, .int x24), (5, .int r19), (0, .ref a_th), (1, .ref a_p1), (2, .int p_2), (3, .int p_3), (4, .int p_4)]) hx hb dX10_doesThree_48 hl (k := 6) rfl (by rw [ex24]; rfl) (by decide) rfl (fun ls hl => ?_)
          refine lv_goto (tgt := 6) hx hb dX10_doesThree_51 (by decide) ?_
          exact ih6 r19 x24 w20 w17 w21 w22 k6 _ _ _ hm hk6 hP hS (lv_sub hl [2, 3, 4, 5, 6, 1, 0] rfl)
  refine lp6 1024 (1 : Int32) (0 : Int32) v_stack v_one v_two v_three _ _ _ _ hm (fun x7 w8 w9 w10 w11 H locs ls hm hP hS hl => ?_) hP hS (lv_sub hl [2, 3, 4, 5, 6, 1, 0] rfl)
  refine lv_iload hx hb dX10_doesThree_54 (lv_at hl 0 rfl) ?_
  obtain ⟨h25, hm⟩ := gd_s hm
  obtain rfl := Option.some.inj hm
  subst hQ
  exact W.zret hx hb hr (zB_n h25) (fun t ht hW => ⟨⟨_, (), rfl, rfl, kb_h hP ht⟩, hS.F ht⟩) hS.2.2 dX10_doesThree_56
set_option maxHeartbeats 4000000 in
set_option maxRecDepth 100000 in
theorem c_X10_tells (l : Launch) (dC : Nat → ClassId) (dI : Nat → Nat → Nat) (cI cJ cZ cQ : ClassId) (t sz : Nat) (a_th : Nat) (a_page : Nat) (a_question : Nat) (a_stack : Nat) (a_yesOf : Nat) (a_noOf : Nat) (a_three : Nat) (a_factOf : Nat) (a_two : Nat) (a_one : Nat) (q_text : Value) (q_book : Value) (q_bookSeed : Value) (q_kept : Value) (q_isKept : Value) (q_toldSimple : Value) (q_toldDay : Value) (q_toldYes : Value) (v_thrown : Int32) (v_textSize : Int32) (v_place : Int32) (v_questionSize : Int32) (v_facts : Int32) (v_isSo : Int32) (v_common : Int32) (v_readFacts : Int32) (v_readSo : Int32) (v_readCommon : Int32) (v_readDay : Int32) (v_seed : Int64) (v_acts : Int32) (v_told : Int32) (v_page : (Nat → Int32)) (v_question : (Nat → Int32)) (v_stack : (Nat → Int32)) (v_yesOf : (Nat → Int32)) (v_noOf : (Nat → Int32)) (v_three : (Nat → Int32)) (v_factOf : (Nat → Int32)) (v_two : (Nat → Int32)) (v_one : (Nat → Int32)) (p_1 : Int32) (p_2 : Int32) (p_3 : Int32) (o : Int32 × Int32 × (Nat → Int32) × (Nat → Int32) × (Nat → Int32) × (Nat → Int32)) (hm : m_X10_tells p_1 p_2 p_3 v_thrown v_questionSize v_facts v_page v_question v_stack v_yesOf v_noOf v_three v_factOf v_two v_one = some o) : Met l yX10_tells wsX10_tells { frames := 10, cells := 0, slots := 0, locals := 260 } (va_Pc [.ref a_th, .int p_1, .int p_2, .int p_3] (cP (dC, dI) (kT cI cJ cZ cQ) t sz [oX10 a_th (.int v_thrown) q_text (.int v_textSize) (.int v_place) (.ref a_question) (.int v_questionSize) (.int v_facts) (.int v_isSo) (.int v_common) (.int v_readFacts) (.int v_readSo) (.int v_readCommon) (.int v_readDay) (.ref a_page) (.long v_seed) q_book q_bookSeed (.int v_acts) q_kept q_isKept (.int v_told) q_toldSimple q_toldDay q_toldYes (.ref a_yesOf) (.ref a_noOf) (.ref a_factOf) (.ref a_stack) (.ref a_one) (.ref a_two) (.ref a_three), aI cI a_page 12 v_page, aI cI a_question 16 v_question, aI cZ a_stack 17 v_stack, aI cI a_yesOf 931 v_yesOf, aI cI a_noOf 931 v_noOf, aI cI a_three 7 v_three, aI cI a_factOf 5 v_factOf, aI cI a_two 7 v_two, aI cI a_one 7 v_one])) (cQi (dC, dI) (va_A [oX10 a_th (.int v_thrown) q_text (.int v_textSize) (.int v_place) (.ref a_question) (.int v_questionSize) (.int v_facts) (.int v_isSo) (.int v_common) (.int v_readFacts) (.int v_readSo) (.int v_readCommon) (.int v_readDay) (.ref a_page) (.long v_seed) q_book q_bookSeed (.int v_acts) q_kept q_isKept (.int v_told) q_toldSimple q_toldDay q_toldYes (.ref a_yesOf) (.ref a_noOf) (.ref a_factOf) (.ref a_stack) (.ref a_one) (.ref a_two) (.ref a_three), aI cI a_page 12 v_page, aI cI a_question 16 v_question, aI cZ a_stack 17 v_stack, aI cI a_yesOf 931 v_yesOf, aI cI a_noOf 931 v_noOf, aI cI a_three 7 v_three, aI cI a_factOf 5 v_factOf, aI cI a_two 7 v_two, aI cI a_one 7 v_one] sz) o.1 [oX10 a_th (.int (o.2.1)) q_text (.int v_textSize) (.int v_place) (.ref a_question) (.int v_questionSize) (.int v_facts) (.int v_isSo) (.int v_common) (.int v_readFacts) (.int v_readSo) (.int v_readCommon) (.int v_readDay) (.ref a_page) (.long v_seed) q_book q_bookSeed (.int v_acts) q_kept q_isKept (.int v_told) q_toldSimple q_toldDay q_toldYes (.ref a_yesOf) (.ref a_noOf) (.ref a_factOf) (.ref a_stack) (.ref a_one) (.ref a_two) (.ref a_three), aI cI a_page 12 v_page, aI cI a_question 16 v_question, aI cZ a_stack 17 (o.2.2.1), aI cI a_yesOf 931 v_yesOf, aI cI a_noOf 931 v_noOf, aI cI a_three 7 (o.2.2.2.1), aI cI a_factOf 5 v_factOf, aI cI a_two 7 (o.2.2.2.2.1), aI cI a_one 7 (o.2.2.2.2.2)]) 0 0 (va_A [oX10 a_th (.int v_thrown) q_text (.int v_textSize) (.int v_place) (.ref a_question) (.int v_questionSize) (.int v_facts) (.int v_isSo) (.int v_common) (.int v_readFacts) (.int v_readSo) (.int v_readCommon) (.int v_readDay) (.ref a_page) (.long v_seed) q_book q_bookSeed (.int v_acts) q_kept q_isKept (.int v_told) q_toldSimple q_toldDay q_toldYes (.ref a_yesOf) (.ref a_noOf) (.ref a_factOf) (.ref a_stack) (.ref a_one) (.ref a_two) (.ref a_three), aI cI a_page 12 v_page, aI cI a_question 16 v_question, aI cZ a_stack 17 v_stack, aI cI a_yesOf 931 v_yesOf, aI cI a_noOf 931 v_noOf, aI cI a_three 7 v_three, aI cI a_factOf 5 v_factOf, aI cI a_two 7 v_two, aI cI a_one 7 v_one] sz) := by
  refine Met.ofW (cc := cX10_tells) (maxL := 7) (ret := (some .int)) (by decide) rfl ?_
  intro p e s m args below meth c s₁ B hml hv
  obtain ⟨rfl, hsz, hP, hK, hD0, hG⟩ := hv
  have hx := B.exec
  have hb := B.bytes
  have hr := B.returns
  have hts := atoms_spec (ws := wsX10_tells) B.pre
  have hown : s.vm.findClass RX10 = some m.cls := findClass_of_methodNamed B.named
  have hlocks := B.notSynchronized
  subst hsz
  have hD := hD0.self (sz := s.heap.size)
  generalize hAe : va_A [oX10 a_th (.int v_thrown) q_text (.int v_textSize) (.int v_place) (.ref a_question) (.int v_questionSize) (.int v_facts) (.int v_isSo) (.int v_common) (.int v_readFacts) (.int v_readSo) (.int v_readCommon) (.int v_readDay) (.ref a_page) (.long v_seed) q_book q_bookSeed (.int v_acts) q_kept q_isKept (.int v_told) q_toldSimple q_toldDay q_toldYes (.ref a_yesOf) (.ref a_noOf) (.ref a_factOf) (.ref a_stack) (.ref a_one) (.ref a_two) (.ref a_three), aI cI a_page 12 v_page, aI cI a_question 16 v_question, aI cZ a_stack 17 v_stack, aI cI a_yesOf 931 v_yesOf, aI cI a_noOf 931 v_noOf, aI cI a_three 7 v_three, aI cI a_factOf 5 v_factOf, aI cI a_two 7 v_two, aI cI a_one 7 v_one] s.heap.size = A at hD hG ⊢
  have hA : ∀ q : Nat, s.heap.size ≤ q → A q := fun q h => by rw [← hAe]; exact Or.inr h
  have hS : va_S A s.heap s.heap [] := va_S.rf
  have hl := lv_entry ([.ref a_th, .int p_1, .int p_2, .int p_3]) (n := 7) (Nat.le_of_ble_eq_true rfl)
  rw [lg_entry_eq]
  generalize (lg_sl ([.ref a_th, .int p_1, .int p_2, .int p_3]) ++ List.replicate (7 - (lg_sl ([.ref a_th, .int p_1, .int p_2, .int p_3])).length) Slot.unset).toArray = ls at hl ⊢
  have hl : lv_has ls 7 [(0, .ref a_th), (1, .int p_1), (2, .int p_2), (3, .int p_3)] := hl
  have iX10 : ∀ w ∈ wsX100, w ∈ wsX10_tells := fun _ h => List.mem_cons_of_mem _ (List.mem_append_right _ h)
  have f66 := hts (.fieldLink RX10 66 "TrueOnceWeekModel" "thrown" "I") (by decide +kernel)
  have cl218 := hts (.constantLong RX10 218 (3 : Int64)) (by decide +kernel)
  have f16 := hts (.fieldLink RX10 16 "TrueOnceWeekModel" "page" "[I") (by decide +kernel)
  have f102 := hts (.fieldLink RX10 102 "TrueOnceWeekModel" "facts" "I") (by decide +kernel)
  refine kb_gen (fun Q hQ => ?_)
  unfold m_X10_tells at hm
  refine lv_aload_n hx hb dX10_tells_0 rfl (lv_at hl 0 rfl) ?_
  refine lv_iconst (v := (0 : Int32)) hx hb dX10_tells_1 (by decide) ?_
  refine va_put (D := (dC, dI)) (ci := 8) (v := .int (0 : Int32)) (ty := .int) (C := RX10) (T := TX10) (N := 31) hx hb hts iX10 tyX10 tyX10_ok nmX10 hown hK hP (kb_D hD rfl) hS 0 rfl rfl 0 (by decide) f66 (fun _ h9 => h9) rfl (by decide +kernel) rfl rfl (Nat.le_of_ble_eq_true rfl) dX10_tells_2 (fun H locs hP _ hS => ?_)
  have hP : va_P (dC, dI) vwCl [oX10 a_th (.int (0 : Int32)) q_text (.int v_textSize) (.int v_place) (.ref a_question) (.int v_questionSize) (.int v_facts) (.int v_isSo) (.int v_common) (.int v_readFacts) (.int v_readSo) (.int v_readCommon) (.int v_readDay) (.ref a_page) (.long v_seed) q_book q_bookSeed (.int v_acts) q_kept q_isKept (.int v_told) q_toldSimple q_toldDay q_toldYes (.ref a_yesOf) (.ref a_noOf) (.ref a_factOf) (.ref a_stack) (.ref a_one) (.ref a_two) (.ref a_three), aI cI a_page 12 v_page, aI cI a_question 16 v_question, aI cZ a_stack 17 v_stack, aI cI a_yesOf 931 v_yesOf, aI cI a_noOf 931 v_noOf, aI cI a_three 7 v_three, aI cI a_factOf 5 v_factOf, aI cI a_two 7 v_two, aI cI a_one 7 v_one] H := hP
  refine lv_iload_n hx hb dX10_tells_5 rfl (lv_at hl 1 rfl) ?_
  refine lv_i2l (v := (Int32.toInt64 p_1)) hx hb dX10_tells_6 rfl ?_
  refine lv_lconst (v := (1 : Int64)) hx hb dX10_tells_7 (by decide) ?_
  refine lv_ldc2 (v := (3 : Int64)) hx hb hown cl218 dX10_tells_8 ?_
  obtain ⟨r1, ho2, hm⟩ := bd1_s hm
  refine kb_calli (Rv := r1) (va_runS (As := [.long (Int32.toInt64 p_1), .long (1 : Int64), .long (3 : Int64)]) (rest := []) ⟨hx, hb, hml, hown, hts⟩ (c_X10_in l dC dI cI cJ cZ cQ t H.size (Int32.toInt64 p_1) (1 : Int64) (3 : Int64) (r1) ho2) (va_cwS 3 hts gX10_tells_X10_in rfl rfl rfl (by decide +kernel) ⟨(Nat.le_of_ble_eq_true rfl), (Nat.le_of_ble_eq_true rfl)⟩) (kb_pre hK hG hP (kb_D hD rfl) hS hA [] rfl (by decide)) rfl rfl hl.1 rfl (lv_room (Nat.le_of_ble_eq_true rfl)) dX10_tells_11 ⟨Nat.zero_le _, Nat.zero_le _⟩) hP (kb_D hD rfl) hS hA [] rfl [(false, 0), (false, 1), (false, 2), (false, 3), (false, 4), (false, 5), (false, 6), (false, 7), (false, 8), (false, 9)] (w2 := [oX10 a_th (.int (0 : Int32)) q_text (.int v_textSize) (.int v_place) (.ref a_question) (.int v_questionSize) (.int v_facts) (.int v_isSo) (.int v_common) (.int v_readFacts) (.int v_readSo) (.int v_readCommon) (.int v_readDay) (.ref a_page) (.long v_seed) q_book q_bookSeed (.int v_acts) q_kept q_isKept (.int v_told) q_toldSimple q_toldDay q_toldYes (.ref a_yesOf) (.ref a_noOf) (.ref a_factOf) (.ref a_stack) (.ref a_one) (.ref a_two) (.ref a_three), aI cI a_page 12 v_page, aI cI a_question 16 v_question, aI cZ a_stack 17 v_stack, aI cI a_yesOf 931 v_yesOf, aI cI a_noOf 931 v_noOf, aI cI a_three 7 v_three, aI cI a_factOf 5 v_factOf, aI cI a_two 7 v_two, aI cI a_one 7 v_one]) rfl (by decide) (fun H locs hP hS => ?_)
  refine lv_if_eq (tgt := 48) hx hb dX10_tells_14 (by decide) (fun c3 => ?_) (fun c3 => ?_)
  · replace hm := ite_t c3 hm
    refine lv_bipush (v := (-2 : Int32)) hx hb dX10_tells_48 (by decide) ?_
    obtain rfl := Option.some.inj hm
    subst hQ
    exact W.iret hx hb hr (fun t ht hW => ⟨⟨_, (), rfl, rfl, kb_h hP ht⟩, hS.F ht⟩) hS.2.2 dX10_tells_50
  · replace hm := ite_f c3 hm
    refine lv_iload_n hx hb dX10_tells_17 rfl (lv_at hl 2 rfl) ?_
    refine lv_iconst (v := (5 : Int32)) hx hb dX10_tells_18 (by decide) ?_
    obtain ⟨k38, ek38, hm⟩ := nm_s hm
    have J38 : ∀ (H : Heap) (locs : List Loc) (ls : Array Slot), k38 = some o → va_P (dC, dI) vwCl [oX10 a_th (.int (0 : Int32)) q_text (.int v_textSize) (.int v_place) (.ref a_question) (.int v_questionSize) (.int v_facts) (.int v_isSo) (.int v_common) (.int v_readFacts) (.int v_readSo) (.int v_readCommon) (.int v_readDay) (.ref a_page) (.long v_seed) q_book q_bookSeed (.int v_acts) q_kept q_isKept (.int v_told) q_toldSimple q_toldDay q_toldYes (.ref a_yesOf) (.ref a_noOf) (.ref a_factOf) (.ref a_stack) (.ref a_one) (.ref a_two) (.ref a_three), aI cI a_page 12 v_page, aI cI a_question 16 v_question, aI cZ a_stack 17 v_stack, aI cI a_yesOf 931 v_yesOf, aI cI a_noOf 931 v_noOf, aI cI a_three 7 v_three, aI cI a_factOf 5 v_factOf, aI cI a_two 7 v_two, aI cI a_one 7 v_one] H → va_S A s.heap H locs → lv_has ls 7 [(0, .ref a_th), (1, .int p_1), (2, .int p_2), (3, .int p_3)] → W p l e (headSpec wsX10_tells { frames := 10, cells := 0, slots := 0, locals := 260 }).room s m [.ref a_th, .int p_1, .int p_2, .int p_3].toArray below meth c H locs 0 0 Q (F0 m 38 ls []) := by
      intro  H locs ls hm hP hS hl
      rw [ek38] at hm
      refine lv_iload_n hx hb dX10_tells_38 rfl (lv_at hl 3 rfl) ?_
      refine lv_i2l (v := (Int32.toInt64 p_3)) hx hb dX10_tells_39 rfl ?_
      refine lv_lconst (v := (0 : Int64)) hx hb dX10_tells_40 (by decide) ?_
      refine lv_lconst (v := (1 : Int64)) hx hb dX10_tells_41 (by decide) ?_
      obtain ⟨r4, ho5, hm⟩ := bd1_s hm
      refine kb_calli (Rv := r4) (va_runS (As := [.long (Int32.toInt64 p_3), .long (0 : Int64), .long (1 : Int64)]) (rest := []) ⟨hx, hb, hml, hown, hts⟩ (c_X10_in l dC dI cI cJ cZ cQ t H.size (Int32.toInt64 p_3) (0 : Int64) (1 : Int64) (r4) ho5) (va_cwS 3 hts gX10_tells_X10_in rfl rfl rfl (by decide +kernel) ⟨(Nat.le_of_ble_eq_true rfl), (Nat.le_of_ble_eq_true rfl)⟩) (kb_pre hK hG hP (kb_D hD rfl) hS hA [] rfl (by decide)) rfl rfl hl.1 rfl (lv_room (Nat.le_of_ble_eq_true rfl)) dX10_tells_42 ⟨Nat.zero_le _, Nat.zero_le _⟩) hP (kb_D hD rfl) hS hA [] rfl [(false, 0), (false, 1), (false, 2), (false, 3), (false, 4), (false, 5), (false, 6), (false, 7), (false, 8), (false, 9)] (w2 := [oX10 a_th (.int (0 : Int32)) q_text (.int v_textSize) (.int v_place) (.ref a_question) (.int v_questionSize) (.int v_facts) (.int v_isSo) (.int v_common) (.int v_readFacts) (.int v_readSo) (.int v_readCommon) (.int v_readDay) (.ref a_page) (.long v_seed) q_book q_bookSeed (.int v_acts) q_kept q_isKept (.int v_told) q_toldSimple q_toldDay q_toldYes (.ref a_yesOf) (.ref a_noOf) (.ref a_factOf) (.ref a_stack) (.ref a_one) (.ref a_two) (.ref a_three), aI cI a_page 12 v_page, aI cI a_question 16 v_question, aI cZ a_stack 17 v_stack, aI cI a_yesOf 931 v_yesOf, aI cI a_noOf 931 v_noOf, aI cI a_three 7 v_three, aI cI a_factOf 5 v_factOf, aI cI a_two 7 v_two, aI cI a_one 7 v_one]) rfl (by decide) (fun H locs hP hS => ?_)
      refine lv_if_ne (tgt := 51) hx hb dX10_tells_45 (by decide) (fun c6 => ?_) (fun c6 => ?_)
      · replace hm := ite_f c6 hm
        refine lv_aload_n hx hb dX10_tells_51 rfl (lv_at hl 0 rfl) ?_
        refine va_get (D := (dC, dI)) (ci := 8) (v := .ref a_page) (C := RX10) (T := TX10) (N := 31) hx hb hts iX10 hown hK hP 0 rfl rfl 13 (by decide) f16 (fun _ h9 => h9) rfl dX10_tells_52 ?_
        refine lv_bipush (v := (7 : Int32)) hx hb dX10_tells_55 (by decide) ?_
        refine va_iald hx hb hK hP 1 0 rfl rfl (inB_s (by decide)) dX10_tells_57 ?_
        refine lv_topi (fun x7 ex7 => ?_)
        replace hm := nm_t ex7 hm
        refine lv_istore (lv' := [(4, .int x7), (0, .ref a_th), (1, .int p_1), (2, .int p_2), (3, .int p_3)]) hx hb dX10_tells_58 hl (by decide) rfl (fun ls hl => ?_)
        refine lv_iconst (v := (0 : Int32)) hx hb dX10_tells_60 (by decide) ?_
        refine lv_istore (lv' := [(5, .int (0 : Int32)), (4, .int x7), (0, .ref a_th), (1, .int p_1), (2, .int p_2), (3, .int p_3)]) hx hb dX10_tells_61 hl (by decide) rfl (fun ls hl => ?_)
        have lp63 : ∀ (n63 : Nat) (x8 : Int32) (w9 : (Nat → Int32)) (w10 : (Nat → Int32)) (w11 : (Nat → Int32)) (w12 : (Nat → Int32)) (k63 : (Nat → Int32) → (Nat → Int32) → (Nat → Int32) → (Nat → Int32) → Option (Int32 × Int32 × (Nat → Int32) × (Nat → Int32) × (Nat → Int32) × (Nat → Int32))) (H : Heap) (locs : List Loc) (ls : Array Slot), L_X10_tells_63 v_questionSize v_facts v_page v_question v_yesOf v_noOf v_factOf p_1 p_2 p_3 x7 n63 x8 w9 w10 w11 w12 k63 = some o → (∀ (w13 : (Nat → Int32)) (w14 : (Nat → Int32)) (w15 : (Nat → Int32)) (w16 : (Nat → Int32)) (H : Heap) (locs : List Loc) (ls : Array Slot), k63 w13 w14 w15 w16 = some o → va_P (dC, dI) vwCl [oX10 a_th (.int (0 : Int32)) q_text (.int v_textSize) (.int v_place) (.ref a_question) (.int v_questionSize) (.int v_facts) (.int v_isSo) (.int v_common) (.int v_readFacts) (.int v_readSo) (.int v_readCommon) (.int v_readDay) (.ref a_page) (.long v_seed) q_book q_bookSeed (.int v_acts) q_kept q_isKept (.int v_told) q_toldSimple q_toldDay q_toldYes (.ref a_yesOf) (.ref a_noOf) (.ref a_factOf) (.ref a_stack) (.ref a_one) (.ref a_two) (.ref a_three), aI cI a_page 12 v_page, aI cI a_question 16 v_question, aI cZ a_stack 17 w13, aI cI a_yesOf 931 v_yesOf, aI cI a_noOf 931 v_noOf, aI cI a_three 7 w14, aI cI a_factOf 5 v_factOf, aI cI a_two 7 w15, aI cI a_one 7 w16] H → va_S A s.heap H locs → lv_has ls 7 [(3, .int p_3)] → W p l e (headSpec wsX10_tells { frames := 10, cells := 0, slots := 0, locals := 260 }).room s m [.ref a_th, .int p_1, .int p_2, .int p_3].toArray below meth c H locs 0 0 Q (F0 m 170 ls [])) → va_P (dC, dI) vwCl [oX10 a_th (.int (0 : Int32)) q_text (.int v_textSize) (.int v_place) (.ref a_question) (.int v_questionSize) (.int v_facts) (.int v_isSo) (.int v_common) (.int v_readFacts) (.int v_readSo) (.int v_readCommon) (.int v_readDay) (.ref a_page) (.long v_seed) q_book q_bookSeed (.int v_acts) q_kept q_isKept (.int v_told) q_toldSimple q_toldDay q_toldYes (.ref a_yesOf) (.ref a_noOf) (.ref a_factOf) (.ref a_stack) (.ref a_one) (.ref a_two) (.ref a_three), aI cI a_page 12 v_page, aI cI a_question 16 v_question, aI cZ a_stack 17 w9, aI cI a_yesOf 931 v_yesOf, aI cI a_noOf 931 v_noOf, aI cI a_three 7 w10, aI cI a_factOf 5 v_factOf, aI cI a_two 7 w11, aI cI a_one 7 w12] H → va_S A s.heap H locs → lv_has ls 7 [(0, .ref a_th), (1, .int p_1), (2, .int p_2), (3, .int p_3), (4, .int x7), (5, .int x8)] → W p l e (headSpec wsX10_tells { frames := 10, cells := 0, slots := 0, locals := 260 }).room s m [.ref a_th, .int p_1, .int p_2, .int p_3].toArray below meth c H locs 0 0 Q (F0 m 63 ls []) := by
          intro n63
          induction n63 with
          | zero =>
            intro x8 w9 w10 w11 w12 k63 H locs ls hm
            cases (show (none : Option (Int32 × Int32 × (Nat → Int32) × (Nat → Int32) × (Nat → Int32) × (Nat → Int32))) = some o from hm)
          | succ n63 ih63 =>
            intro x8 w9 w10 w11 w12 k63 H locs ls hm hk63 hP hS hl
            rw [L_X10_tells_63.eq_2] at hm
            refine lv_iload hx hb dX10_tells_63 (lv_at hl 5 rfl) ?_
            refine lv_bipush (v := (19 : Int32)) hx hb dX10_tells_65 (by decide) ?_
            refine lv_icmp_ge (tgt := 170) hx hb dX10_tells_67 (by decide) (fun c17 => ?_) (fun c17 => ?_)
            · replace hm := ite_t c17 hm
              exact hk63 w9 w10 w11 w12 _ _ _ hm hP hS (lv_sub hl [3] rfl)
            · replace hm := ite_f c17 hm
              refine lv_aload_n hx hb dX10_tells_70 rfl (lv_at hl 0 rfl) ?_
              refine lv_iload hx hb dX10_tells_71 (lv_at hl 5 rfl) ?_
              obtain ⟨r18, ho19, hm⟩ := bd1_s hm
              refine kb_calli (Rv := r18) (va_runV (As := [.int x8]) (rest := []) ⟨hx, hb, hml, hown, hts⟩ (c_X10_noSimple l dC dI cI cJ cZ cQ t H.size a_th q_text (.ref a_question) (.ref a_page) q_book q_bookSeed q_kept q_isKept q_toldSimple q_toldDay q_toldYes (.ref a_yesOf) (.ref a_noOf) (.ref a_factOf) (.ref a_stack) (.ref a_one) (.ref a_two) (.ref a_three) (0 : Int32) v_textSize v_place v_questionSize v_facts v_isSo v_common v_readFacts v_readSo v_readCommon v_readDay v_seed v_acts v_told x8 (r18) ho19) (cwV 1 hts gX10_tells_X10_noSimple rfl rfl rfl (by decide +kernel) ⟨(Nat.le_of_ble_eq_true rfl), (Nat.le_of_ble_eq_true rfl)⟩) ⟨(kb_pre hK hG hP (kb_D hD rfl) hS hA [0] rfl (by decide)).1, (va_recv hK hP (ci := 8) (q0 := 0) rfl rfl), (kb_pre hK hG hP (kb_D hD rfl) hS hA [0] rfl (by decide)).2⟩ rfl rfl hl.1 rfl (lv_room (Nat.le_of_ble_eq_true rfl)) dX10_tells_73 ⟨Nat.zero_le _, Nat.zero_le _⟩) hP (kb_D hD rfl) hS hA [0] rfl [(true, 0), (false, 1), (false, 2), (false, 3), (false, 4), (false, 5), (false, 6), (false, 7), (false, 8), (false, 9)] (w2 := [oX10 a_th (.int (0 : Int32)) q_text (.int v_textSize) (.int v_place) (.ref a_question) (.int v_questionSize) (.int v_facts) (.int v_isSo) (.int v_common) (.int v_readFacts) (.int v_readSo) (.int v_readCommon) (.int v_readDay) (.ref a_page) (.long v_seed) q_book q_bookSeed (.int v_acts) q_kept q_isKept (.int v_told) q_toldSimple q_toldDay q_toldYes (.ref a_yesOf) (.ref a_noOf) (.ref a_factOf) (.ref a_stack) (.ref a_one) (.ref a_two) (.ref a_three), aI cI a_page 12 v_page, aI cI a_question 16 v_question, aI cZ a_stack 17 w9, aI cI a_yesOf 931 v_yesOf, aI cI a_noOf 931 v_noOf, aI cI a_three 7 w10, aI cI a_factOf 5 v_factOf, aI cI a_two 7 w11, aI cI a_one 7 w12]) rfl (by decide) (fun H locs hP hS => ?_)
              obtain ⟨k84, ek84, hm⟩ := nm_s hm
              have J84 : ∀ (x20 : Int32) (H : Heap) (locs : List Loc) (ls : Array Slot), k84 x20 = some o → va_P (dC, dI) vwCl [oX10 a_th (.int (0 : Int32)) q_text (.int v_textSize) (.int v_place) (.ref a_question) (.int v_questionSize) (.int v_facts) (.int v_isSo) (.int v_common) (.int v_readFacts) (.int v_readSo) (.int v_readCommon) (.int v_readDay) (.ref a_page) (.long v_seed) q_book q_bookSeed (.int v_acts) q_kept q_isKept (.int v_told) q_toldSimple q_toldDay q_toldYes (.ref a_yesOf) (.ref a_noOf) (.ref a_factOf) (.ref a_stack) (.ref a_one) (.ref a_two) (.ref a_three), aI cI a_page 12 v_page, aI cI a_question 16 v_question, aI cZ a_stack 17 w9, aI cI a_yesOf 931 v_yesOf, aI cI a_noOf 931 v_noOf, aI cI a_three 7 w10, aI cI a_factOf 5 v_factOf, aI cI a_two 7 w11, aI cI a_one 7 w12] H → va_S A s.heap H locs → lv_has ls 7 [(0, .ref a_th), (1, .int p_1), (2, .int p_2), (3, .int p_3), (4, .int x7), (5, .int x8)] → W p l e (headSpec wsX10_tells { frames := 10, cells := 0, slots := 0, locals := 260 }).room s m [.ref a_th, .int p_1, .int p_2, .int p_3].toArray below meth c H locs 0 0 Q (F0 m 84 ls [.int x20]) := by
                intro x20 H locs ls hm hP hS hl
                rw [ek84] at hm
                refine lv_istore (lv' := [(6, .int x20), (0, .ref a_th), (1, .int p_1), (2, .int p_2), (3, .int p_3), (4, .int x7), (5, .int x8)]) hx hb dX10_tells_84 hl (by decide) rfl (fun ls hl => ?_)
                refine lv_iload hx hb dX10_tells_86 (lv_at hl 0 rfl) ?_
                obtain ⟨k148, ek148, hm⟩ := nm_s hm
                have J148 : ∀ (x21 : Int32) (w22 : (Nat → Int32)) (w23 : (Nat → Int32)) (w24 : (Nat → Int32)) (w25 : (Nat → Int32)) (H : Heap) (locs : List Loc) (ls : Array Slot), k148 x21 w22 w23 w24 w25 = some o → va_P (dC, dI) vwCl [oX10 a_th (.int (0 : Int32)) q_text (.int v_textSize) (.int v_place) (.ref a_question) (.int v_questionSize) (.int v_facts) (.int v_isSo) (.int v_common) (.int v_readFacts) (.int v_readSo) (.int v_readCommon) (.int v_readDay) (.ref a_page) (.long v_seed) q_book q_bookSeed (.int v_acts) q_kept q_isKept (.int v_told) q_toldSimple q_toldDay q_toldYes (.ref a_yesOf) (.ref a_noOf) (.ref a_factOf) (.ref a_stack) (.ref a_one) (.ref a_two) (.ref a_three), aI cI a_page 12 v_page, aI cI a_question 16 v_question, aI cZ a_stack 17 w22, aI cI a_yesOf 931 v_yesOf, aI cI a_noOf 931 v_noOf, aI cI a_three 7 w23, aI cI a_factOf 5 v_factOf, aI cI a_two 7 w24, aI cI a_one 7 w25] H → va_S A s.heap H locs → lv_has ls 7 [(0, .ref a_th), (1, .int p_1), (2, .int p_2), (3, .int p_3), (4, .int x7), (5, .int x8), (6, .int x21)] → W p l e (headSpec wsX10_tells { frames := 10, cells := 0, slots := 0, locals := 260 }).room s m [.ref a_th, .int p_1, .int p_2, .int p_3].toArray below meth c H locs 0 0 Q (F0 m 148 ls []) := by
                  intro x21 w22 w23 w24 w25 H locs ls hm hP hS hl
                  rw [ek148] at hm
                  refine lv_iload hx hb dX10_tells_148 (lv_at hl 6 rfl) ?_
                  refine lv_if_eq (tgt := 164) hx hb dX10_tells_150 (by decide) (fun c26 => ?_) (fun c26 => ?_)
                  · replace hm := ite_t c26 hm
                    obtain ⟨x27, ex27⟩ : ∃ y : Int32, y = x8 + (1 : Int32) := ⟨_, rfl⟩
                    replace hm := nm_t ex27 hm
                    refine lv_iinc (v := x27) (lv' := [(5, .int x27), (0, .ref a_th), (1, .int p_1), (2, .int p_2), (3, .int p_3), (4, .int x7), (6, .int x21)]) hx hb dX10_tells_164 hl (k := 5) rfl (by rw [ex27]; rfl) (by decide) rfl (fun ls hl => ?_)
                    refine lv_goto (tgt := 63) hx hb dX10_tells_167 (by decide) ?_
                    exact ih63 x27 w22 w23 w24 w25 k63 _ _ _ hm hk63 hP hS (lv_sub hl [1, 2, 3, 4, 5, 0] rfl)
                  · replace hm := ite_f c26 hm
                    refine lv_iload_n hx hb dX10_tells_153 rfl (lv_at hl 3 rfl) ?_
                    refine lv_if_ne (tgt := 161) hx hb dX10_tells_154 (by decide) (fun c28 => ?_) (fun c28 => ?_)
                    · replace hm := ite_f c28 hm
                      refine lv_iload hx hb dX10_tells_161 (lv_at hl 5 rfl) ?_
                      obtain rfl := Option.some.inj hm
                      subst hQ
                      exact W.iret hx hb hr (fun t ht hW => ⟨⟨_, (), rfl, rfl, kb_h hP ht⟩, hS.F ht⟩) hS.2.2 dX10_tells_163
                    · replace hm := ite_t c28 hm
                      refine lv_iconst (v := (1 : Int32)) hx hb dX10_tells_157 (by decide) ?_
                      refine lv_goto (tgt := 163) hx hb dX10_tells_158 (by decide) ?_
                      obtain rfl := Option.some.inj hm
                      subst hQ
                      exact W.iret hx hb hr (fun t ht hW => ⟨⟨_, (), rfl, rfl, kb_h hP ht⟩, hS.F ht⟩) hS.2.2 dX10_tells_163
                refine lv_if_eq (tgt := 148) hx hb dX10_tells_88 (by decide) (fun c29 => ?_) (fun c29 => ?_)
                · replace hm := ite_t c29 hm
                  exact J148 x20 w9 w10 w11 w12 _ _ _ hm hP hS (lv_sub hl [1, 2, 3, 4, 5, 6, 0] rfl)
                · replace hm := ite_f c29 hm
                  refine lv_iload_n hx hb dX10_tells_91 rfl (lv_at hl 2 rfl) ?_
                  refine lv_iconst (v := (1 : Int32)) hx hb dX10_tells_92 (by decide) ?_
                  obtain ⟨k146, ek146, hm⟩ := nm_s hm
                  have J146 : ∀ (x30 : Int32) (w31 : (Nat → Int32)) (w32 : (Nat → Int32)) (w33 : (Nat → Int32)) (w34 : (Nat → Int32)) (H : Heap) (locs : List Loc) (ls : Array Slot), k146 x30 w31 w32 w33 w34 = some o → va_P (dC, dI) vwCl [oX10 a_th (.int (0 : Int32)) q_text (.int v_textSize) (.int v_place) (.ref a_question) (.int v_questionSize) (.int v_facts) (.int v_isSo) (.int v_common) (.int v_readFacts) (.int v_readSo) (.int v_readCommon) (.int v_readDay) (.ref a_page) (.long v_seed) q_book q_bookSeed (.int v_acts) q_kept q_isKept (.int v_told) q_toldSimple q_toldDay q_toldYes (.ref a_yesOf) (.ref a_noOf) (.ref a_factOf) (.ref a_stack) (.ref a_one) (.ref a_two) (.ref a_three), aI cI a_page 12 v_page, aI cI a_question 16 v_question, aI cZ a_stack 17 w31, aI cI a_yesOf 931 v_yesOf, aI cI a_noOf 931 v_noOf, aI cI a_three 7 w32, aI cI a_factOf 5 v_factOf, aI cI a_two 7 w33, aI cI a_one 7 w34] H → va_S A s.heap H locs → lv_has ls 7 [(0, .ref a_th), (1, .int p_1), (2, .int p_2), (3, .int p_3), (4, .int x7), (5, .int x8)] → W p l e (headSpec wsX10_tells { frames := 10, cells := 0, slots := 0, locals := 260 }).room s m [.ref a_th, .int p_1, .int p_2, .int p_3].toArray below meth c H locs 0 0 Q (F0 m 146 ls [.int x30]) := by
                    intro x30 w31 w32 w33 w34 H locs ls hm hP hS hl
                    rw [ek146] at hm
                    refine lv_istore (lv' := [(6, .int x30), (0, .ref a_th), (1, .int p_1), (2, .int p_2), (3, .int p_3), (4, .int x7), (5, .int x8)]) hx hb dX10_tells_146 hl (by decide) rfl (fun ls hl => ?_)
                    exact J148 x30 w31 w32 w33 w34 _ _ _ hm hP hS (lv_sub hl [1, 2, 3, 4, 5, 6, 0] rfl)
                  refine lv_icmp_ne (tgt := 112) hx hb dX10_tells_93 (by decide) (fun c35 => ?_) (fun c35 => ?_)
                  · replace hm := ite_f c35 hm
                    refine lv_iload_n hx hb dX10_tells_112 rfl (lv_at hl 2 rfl) ?_
                    refine lv_iconst (v := (2 : Int32)) hx hb dX10_tells_113 (by decide) ?_
                    refine lv_icmp_ne (tgt := 133) hx hb dX10_tells_114 (by decide) (fun c36 => ?_) (fun c36 => ?_)
                    · replace hm := ite_f c36 hm
                      refine lv_aload_n hx hb dX10_tells_133 rfl (lv_at hl 1 rfl) ?_
                      refine lv_aload_n hx hb dX10_tells_134 rfl (lv_at hl 1 rfl) ?_
                      refine va_get (D := (dC, dI)) (ci := 8) (v := .ref a_page) (C := RX10) (T := TX10) (N := 31) hx hb hts iX10 hown hK hP 0 rfl rfl 13 (by decide) f16 (fun _ h9 => h9) rfl dX10_tells_135 ?_
                      refine lv_iload hx hb dX10_tells_138 (lv_at hl 6 rfl) ?_
                      refine lv_iload hx hb dX10_tells_140 (lv_at hl 5 rfl) ?_
                      refine lv_iload_n hx hb dX10_tells_142 rfl (lv_at hl 3 rfl) ?_
                      obtain ⟨r37, w38, w39, w40, w41, ho42, hm⟩ := bd5_s hm
                      refine kb_calli (Rv := r37) (va_runV (As := [.ref a_page, .int x8, .int x7, .int p_2]) (rest := []) ⟨hx, hb, hml, hown, hts⟩ (c_X10_doesThree l dC dI cI cJ cZ cQ t H.size a_th a_page a_question a_stack a_yesOf a_noOf a_one a_factOf a_two a_three 12 q_text (.ref a_page) q_book q_bookSeed q_kept q_isKept q_toldSimple q_toldDay q_toldYes (0 : Int32) v_textSize v_place v_questionSize v_facts v_isSo v_common v_readFacts v_readSo v_readCommon v_readDay v_seed v_acts v_told v_page v_question w9 v_yesOf v_noOf w12 v_factOf w11 w10 x8 x7 p_2 (r37, w38, w39, w40, w41) ho42) (cwV 4 hts gX10_tells_X10_doesThree rfl rfl rfl (by decide +kernel) ⟨(Nat.le_of_ble_eq_true rfl), (Nat.le_of_ble_eq_true rfl)⟩) ⟨(kb_pre hK hG hP (kb_D hD rfl) hS hA [0, 1, 2, 3, 4, 5, 9, 7, 8, 6] rfl (by decide)).1, (va_recv hK hP (ci := 8) (q0 := 0) rfl rfl), (kb_pre hK hG hP (kb_D hD rfl) hS hA [0, 1, 2, 3, 4, 5, 9, 7, 8, 6] rfl (by decide)).2⟩ rfl rfl hl.1 rfl (lv_room (Nat.le_of_ble_eq_true rfl)) dX10_tells_143 ⟨Nat.zero_le _, Nat.zero_le _⟩) hP (kb_D hD rfl) hS hA [0, 1, 2, 3, 4, 5, 9, 7, 8, 6] rfl [(true, 0), (true, 1), (true, 2), (true, 3), (true, 4), (true, 5), (true, 9), (true, 7), (true, 8), (true, 6)] (w2 := [oX10 a_th (.int (0 : Int32)) q_text (.int v_textSize) (.int v_place) (.ref a_question) (.int v_questionSize) (.int v_facts) (.int v_isSo) (.int v_common) (.int v_readFacts) (.int v_readSo) (.int v_readCommon) (.int v_readDay) (.ref a_page) (.long v_seed) q_book q_bookSeed (.int v_acts) q_kept q_isKept (.int v_told) q_toldSimple q_toldDay q_toldYes (.ref a_yesOf) (.ref a_noOf) (.ref a_factOf) (.ref a_stack) (.ref a_one) (.ref a_two) (.ref a_three), aI cI a_page 12 v_page, aI cI a_question 16 v_question, aI cZ a_stack 17 w38, aI cI a_yesOf 931 v_yesOf, aI cI a_noOf 931 v_noOf, aI cI a_three 7 w41, aI cI a_factOf 5 v_factOf, aI cI a_two 7 w40, aI cI a_one 7 w39]) rfl (by decide) (fun H locs hP hS => ?_)
                      exact J146 r37 w38 w41 w40 w39 _ _ _ hm hP hS (lv_sub hl [1, 2, 3, 4, 5, 6] rfl)
                    · replace hm := ite_t c36 hm
                      refine lv_aload_n hx hb dX10_tells_117 rfl (lv_at hl 1 rfl) ?_
                      refine lv_aload_n hx hb dX10_tells_118 rfl (lv_at hl 1 rfl) ?_
                      refine va_get (D := (dC, dI)) (ci := 8) (v := .ref a_page) (C := RX10) (T := TX10) (N := 31) hx hb hts iX10 hown hK hP 0 rfl rfl 13 (by decide) f16 (fun _ h9 => h9) rfl dX10_tells_119 ?_
                      refine lv_iload hx hb dX10_tells_122 (lv_at hl 6 rfl) ?_
                      refine lv_iload hx hb dX10_tells_124 (lv_at hl 5 rfl) ?_
                      refine lv_iload_n hx hb dX10_tells_126 rfl (lv_at hl 3 rfl) ?_
                      obtain ⟨r43, w44, w45, w46, ho47, hm⟩ := bd4_s hm
                      refine kb_calli (Rv := r43) (va_runV (As := [.ref a_page, .int x8, .int x7, .int p_2]) (rest := []) ⟨hx, hb, hml, hown, hts⟩ (c_X10_doesTwo l dC dI cI cJ cZ cQ t H.size a_th a_page a_question a_stack a_yesOf a_noOf a_two a_factOf a_three 12 q_text (.ref a_page) q_book q_bookSeed q_kept q_isKept q_toldSimple q_toldDay q_toldYes (.ref a_one) (0 : Int32) v_textSize v_place v_questionSize v_facts v_isSo v_common v_readFacts v_readSo v_readCommon v_readDay v_seed v_acts v_told v_page v_question w9 v_yesOf v_noOf w11 v_factOf w10 x8 x7 p_2 (r43, w44, w45, w46) ho47) (cwV 4 hts gX10_tells_X10_doesTwo rfl rfl rfl (by decide +kernel) ⟨(Nat.le_of_ble_eq_true rfl), (Nat.le_of_ble_eq_true rfl)⟩) ⟨(kb_pre hK hG hP (kb_D hD rfl) hS hA [0, 1, 2, 3, 4, 5, 8, 7, 6] rfl (by decide)).1, (va_recv hK hP (ci := 8) (q0 := 0) rfl rfl), (kb_pre hK hG hP (kb_D hD rfl) hS hA [0, 1, 2, 3, 4, 5, 8, 7, 6] rfl (by decide)).2⟩ rfl rfl hl.1 rfl (lv_room (Nat.le_of_ble_eq_true rfl)) dX10_tells_127 ⟨Nat.zero_le _, Nat.zero_le _⟩) hP (kb_D hD rfl) hS hA [0, 1, 2, 3, 4, 5, 8, 7, 6] rfl [(true, 0), (true, 1), (true, 2), (true, 3), (true, 4), (true, 5), (true, 8), (true, 7), (true, 6), (false, 9)] (w2 := [oX10 a_th (.int (0 : Int32)) q_text (.int v_textSize) (.int v_place) (.ref a_question) (.int v_questionSize) (.int v_facts) (.int v_isSo) (.int v_common) (.int v_readFacts) (.int v_readSo) (.int v_readCommon) (.int v_readDay) (.ref a_page) (.long v_seed) q_book q_bookSeed (.int v_acts) q_kept q_isKept (.int v_told) q_toldSimple q_toldDay q_toldYes (.ref a_yesOf) (.ref a_noOf) (.ref a_factOf) (.ref a_stack) (.ref a_one) (.ref a_two) (.ref a_three), aI cI a_page 12 v_page, aI cI a_question 16 v_question, aI cZ a_stack 17 w44, aI cI a_yesOf 931 v_yesOf, aI cI a_noOf 931 v_noOf, aI cI a_three 7 w46, aI cI a_factOf 5 v_factOf, aI cI a_two 7 w45, aI cI a_one 7 w12]) rfl (by decide) (fun H locs hP hS => ?_)
                      refine lv_goto (tgt := 146) hx hb dX10_tells_130 (by decide) ?_
                      exact J146 r43 w44 w46 w45 w12 _ _ _ hm hP hS (lv_sub hl [1, 2, 3, 4, 5, 6] rfl)
                  · replace hm := ite_t c35 hm
                    refine lv_aload_n hx hb dX10_tells_96 rfl (lv_at hl 1 rfl) ?_
                    refine lv_aload_n hx hb dX10_tells_97 rfl (lv_at hl 1 rfl) ?_
                    refine va_get (D := (dC, dI)) (ci := 8) (v := .ref a_page) (C := RX10) (T := TX10) (N := 31) hx hb hts iX10 hown hK hP 0 rfl rfl 13 (by decide) f16 (fun _ h9 => h9) rfl dX10_tells_98 ?_
                    refine lv_iload hx hb dX10_tells_101 (lv_at hl 6 rfl) ?_
                    refine lv_iload hx hb dX10_tells_103 (lv_at hl 5 rfl) ?_
                    refine lv_iload_n hx hb dX10_tells_105 rfl (lv_at hl 3 rfl) ?_
                    obtain ⟨r48, w49, w50, ho51, hm⟩ := bd3_s hm
                    refine kb_calli (Rv := r48) (va_runV (As := [.ref a_page, .int x8, .int x7, .int p_2]) (rest := []) ⟨hx, hb, hml, hown, hts⟩ (c_X10_doesOne l dC dI cI cJ cZ cQ t H.size a_th a_page a_question a_stack a_yesOf a_noOf a_three a_factOf 12 q_text (.ref a_page) q_book q_bookSeed q_kept q_isKept q_toldSimple q_toldDay q_toldYes (.ref a_one) (.ref a_two) (0 : Int32) v_textSize v_place v_questionSize v_facts v_isSo v_common v_readFacts v_readSo v_readCommon v_readDay v_seed v_acts v_told v_page v_question w9 v_yesOf v_noOf w10 v_factOf x8 x7 p_2 (r48, w49, w50) ho51) (cwV 4 hts gX10_tells_X10_doesOne rfl rfl rfl (by decide +kernel) ⟨(Nat.le_of_ble_eq_true rfl), (Nat.le_of_ble_eq_true rfl)⟩) ⟨(kb_pre hK hG hP (kb_D hD rfl) hS hA [0, 1, 2, 3, 4, 5, 6, 7] rfl (by decide)).1, (va_recv hK hP (ci := 8) (q0 := 0) rfl rfl), (kb_pre hK hG hP (kb_D hD rfl) hS hA [0, 1, 2, 3, 4, 5, 6, 7] rfl (by decide)).2⟩ rfl rfl hl.1 rfl (lv_room (Nat.le_of_ble_eq_true rfl)) dX10_tells_106 ⟨Nat.zero_le _, Nat.zero_le _⟩) hP (kb_D hD rfl) hS hA [0, 1, 2, 3, 4, 5, 6, 7] rfl [(true, 0), (true, 1), (true, 2), (true, 3), (true, 4), (true, 5), (true, 6), (true, 7), (false, 8), (false, 9)] (w2 := [oX10 a_th (.int (0 : Int32)) q_text (.int v_textSize) (.int v_place) (.ref a_question) (.int v_questionSize) (.int v_facts) (.int v_isSo) (.int v_common) (.int v_readFacts) (.int v_readSo) (.int v_readCommon) (.int v_readDay) (.ref a_page) (.long v_seed) q_book q_bookSeed (.int v_acts) q_kept q_isKept (.int v_told) q_toldSimple q_toldDay q_toldYes (.ref a_yesOf) (.ref a_noOf) (.ref a_factOf) (.ref a_stack) (.ref a_one) (.ref a_two) (.ref a_three), aI cI a_page 12 v_page, aI cI a_question 16 v_question, aI cZ a_stack 17 w49, aI cI a_yesOf 931 v_yesOf, aI cI a_noOf 931 v_noOf, aI cI a_three 7 w50, aI cI a_factOf 5 v_factOf, aI cI a_two 7 w11, aI cI a_one 7 w12]) rfl (by decide) (fun H locs hP hS => ?_)
                    refine lv_goto (tgt := 146) hx hb dX10_tells_109 (by decide) ?_
                    exact J146 r48 w49 w50 w11 w12 _ _ _ hm hP hS (lv_sub hl [1, 2, 3, 4, 5, 6] rfl)
              refine lv_if_ne (tgt := 83) hx hb dX10_tells_76 (by decide) (fun c52 => ?_) (fun c52 => ?_)
              · replace hm := ite_f c52 hm
                refine lv_iconst (v := (0 : Int32)) hx hb dX10_tells_83 (by decide) ?_
                exact J84 (0 : Int32) _ _ _ hm hP hS (lv_sub hl [0, 1, 2, 3, 4, 5] rfl)
              · replace hm := ite_t c52 hm
                refine lv_iconst (v := (1 : Int32)) hx hb dX10_tells_79 (by decide) ?_
                refine lv_goto (tgt := 84) hx hb dX10_tells_80 (by decide) ?_
                exact J84 (1 : Int32) _ _ _ hm hP hS (lv_sub hl [0, 1, 2, 3, 4, 5] rfl)
        refine lp63 1024 (0 : Int32) v_stack v_three v_two v_one _ _ _ _ hm (fun w13 w14 w15 w16 H locs ls hm hP hS hl => ?_) hP hS (lv_sub hl [2, 3, 4, 5, 1, 0] rfl)
        refine lv_iload_n hx hb dX10_tells_170 rfl (lv_at hl 0 rfl) ?_
        refine lv_if_ne (tgt := 178) hx hb dX10_tells_171 (by decide) (fun c53 => ?_) (fun c53 => ?_)
        · replace hm := ite_f c53 hm
          refine lv_bipush (v := (-9 : Int32)) hx hb dX10_tells_178 (by decide) ?_
          obtain rfl := Option.some.inj hm
          subst hQ
          exact W.iret hx hb hr (fun t ht hW => ⟨⟨_, (), rfl, rfl, kb_h hP ht⟩, hS.F ht⟩) hS.2.2 dX10_tells_180
        · replace hm := ite_t c53 hm
          refine lv_iconst (v := (0 : Int32)) hx hb dX10_tells_174 (by decide) ?_
          refine lv_goto (tgt := 180) hx hb dX10_tells_175 (by decide) ?_
          obtain rfl := Option.some.inj hm
          subst hQ
          exact W.iret hx hb hr (fun t ht hW => ⟨⟨_, (), rfl, rfl, kb_h hP ht⟩, hS.F ht⟩) hS.2.2 dX10_tells_180
      · replace hm := ite_t c6 hm
        refine lv_bipush (v := (-2 : Int32)) hx hb dX10_tells_48 (by decide) ?_
        obtain rfl := Option.some.inj hm
        subst hQ
        exact W.iret hx hb hr (fun t ht hW => ⟨⟨_, (), rfl, rfl, kb_h hP ht⟩, hS.F ht⟩) hS.2.2 dX10_tells_50
    refine lv_icmp_eq (tgt := 38) hx hb dX10_tells_19 (by decide) (fun c54 => ?_) (fun c54 => ?_)
    · replace hm := ite_t c54 hm
      exact J38  _ _ _ hm hP hS (lv_sub hl [0, 1, 2, 3] rfl)
    · replace hm := ite_f c54 hm
      refine lv_iload_n hx hb dX10_tells_22 rfl (lv_at hl 2 rfl) ?_
      refine lv_i2l (v := (Int32.toInt64 p_2)) hx hb dX10_tells_23 rfl ?_
      refine lv_lconst (v := (0 : Int64)) hx hb dX10_tells_24 (by decide) ?_
      refine lv_aload_n hx hb dX10_tells_25 rfl (lv_at hl 0 rfl) ?_
      refine va_get (D := (dC, dI)) (ci := 8) (v := .int v_facts) (C := RX10) (T := TX10) (N := 31) hx hb hts iX10 hown hK hP 0 rfl rfl 6 (by decide) f102 (fun _ h9 => h9) rfl dX10_tells_26 ?_
      refine lv_iconst (v := (1 : Int32)) hx hb dX10_tells_29 (by decide) ?_
      refine lv_isub hx hb dX10_tells_30 ?_
      refine lv_i2l (v := (Int32.toInt64 (v_facts - (1 : Int32)))) hx hb dX10_tells_31 rfl ?_
      obtain ⟨r55, ho56, hm⟩ := bd1_s hm
      refine kb_calli (Rv := r55) (va_runS (As := [.long (Int32.toInt64 p_2), .long (0 : Int64), .long (Int32.toInt64 (v_facts - (1 : Int32)))]) (rest := []) ⟨hx, hb, hml, hown, hts⟩ (c_X10_in l dC dI cI cJ cZ cQ t H.size (Int32.toInt64 p_2) (0 : Int64) (Int32.toInt64 (v_facts - (1 : Int32))) (r55) ho56) (va_cwS 3 hts gX10_tells_X10_in rfl rfl rfl (by decide +kernel) ⟨(Nat.le_of_ble_eq_true rfl), (Nat.le_of_ble_eq_true rfl)⟩) (kb_pre hK hG hP (kb_D hD rfl) hS hA [] rfl (by decide)) rfl rfl hl.1 rfl (lv_room (Nat.le_of_ble_eq_true rfl)) dX10_tells_32 ⟨Nat.zero_le _, Nat.zero_le _⟩) hP (kb_D hD rfl) hS hA [] rfl [(false, 0), (false, 1), (false, 2), (false, 3), (false, 4), (false, 5), (false, 6), (false, 7), (false, 8), (false, 9)] (w2 := [oX10 a_th (.int (0 : Int32)) q_text (.int v_textSize) (.int v_place) (.ref a_question) (.int v_questionSize) (.int v_facts) (.int v_isSo) (.int v_common) (.int v_readFacts) (.int v_readSo) (.int v_readCommon) (.int v_readDay) (.ref a_page) (.long v_seed) q_book q_bookSeed (.int v_acts) q_kept q_isKept (.int v_told) q_toldSimple q_toldDay q_toldYes (.ref a_yesOf) (.ref a_noOf) (.ref a_factOf) (.ref a_stack) (.ref a_one) (.ref a_two) (.ref a_three), aI cI a_page 12 v_page, aI cI a_question 16 v_question, aI cZ a_stack 17 v_stack, aI cI a_yesOf 931 v_yesOf, aI cI a_noOf 931 v_noOf, aI cI a_three 7 v_three, aI cI a_factOf 5 v_factOf, aI cI a_two 7 v_two, aI cI a_one 7 v_one]) rfl (by decide) (fun H locs hP hS => ?_)
      refine lv_if_eq (tgt := 48) hx hb dX10_tells_35 (by decide) (fun c57 => ?_) (fun c57 => ?_)
      · replace hm := ite_t c57 hm
        refine lv_bipush (v := (-2 : Int32)) hx hb dX10_tells_48 (by decide) ?_
        obtain rfl := Option.some.inj hm
        subst hQ
        exact W.iret hx hb hr (fun t ht hW => ⟨⟨_, (), rfl, rfl, kb_h hP ht⟩, hS.F ht⟩) hS.2.2 dX10_tells_50
      · replace hm := ite_f c57 hm
        exact J38  _ _ _ hm hP hS (lv_sub hl [0, 1, 2, 3] rfl)
set_option maxHeartbeats 4000000 in
set_option maxRecDepth 100000 in
theorem c_X10_hundred (l : Launch) (dC : Nat → ClassId) (dI : Nat → Nat → Nat) (cI cJ cZ cQ : ClassId) (t sz : Nat) (p_0 : Int32) (o : Int64) (hm : m_X10_hundred p_0 = some o) : Met l yX10_hundred wsX10_hundred { frames := 0, cells := 0, slots := 0, locals := 0 } (va_Pc [.int p_0] (cP (dC, dI) (kT cI cJ cZ cQ) t sz [])) (cQl (dC, dI) (va_A [] sz) o []) 0 0 (va_A [] sz) := by
  refine Met.ofW (cc := cX10_hundred) (maxL := 4) (ret := (some .long)) (by decide) rfl ?_
  intro p e s m args below meth c s₁ B hml hv
  obtain ⟨rfl, hsz, hP, hK, hD0, hG⟩ := hv
  have hx := B.exec
  have hb := B.bytes
  have hr := B.returns
  have hts := atoms_spec (ws := wsX10_hundred) B.pre
  have hown : s.vm.findClass RX10 = some m.cls := findClass_of_methodNamed B.named
  have hlocks := B.notSynchronized
  subst hsz
  have hD := hD0.self (sz := s.heap.size)
  generalize hAe : va_A [] s.heap.size = A at hD hG ⊢
  have hA : ∀ q : Nat, s.heap.size ≤ q → A q := fun q h => by rw [← hAe]; exact Or.inr h
  have hS : va_S A s.heap s.heap [] := va_S.rf
  have hl := lv_entry ([.int p_0]) (n := 4) (Nat.le_of_ble_eq_true rfl)
  rw [lg_entry_eq]
  generalize (lg_sl ([.int p_0]) ++ List.replicate (4 - (lg_sl ([.int p_0])).length) Slot.unset).toArray = ls at hl ⊢
  have hl : lv_has ls 4 [(0, .int p_0)] := hl
  have cl223 := hts (.constantLong RX10 223 (100 : Int64)) (by decide +kernel)
  refine kb_gen (fun Q hQ => ?_)
  unfold m_X10_hundred at hm
  refine lv_lconst (v := (1 : Int64)) hx hb dX10_hundred_0 (by decide) ?_
  refine lv_lstore_n (lv' := [(1, .long (1 : Int64)), (0, .int p_0)]) hx hb dX10_hundred_1 rfl hl (by decide) rfl (fun ls hl => ?_)
  refine lv_iconst (v := (0 : Int32)) hx hb dX10_hundred_2 (by decide) ?_
  refine lv_istore_n (lv' := [(3, .int (0 : Int32)), (1, .long (1 : Int64)), (0, .int p_0)]) hx hb dX10_hundred_3 rfl hl (by decide) rfl (fun ls hl => ?_)
  have lp4 : ∀ (n4 : Nat) (x1 : Int64) (x2 : Int32) (k4 : Int64 → Option (Int64)) (H : Heap) (locs : List Loc) (ls : Array Slot), L_X10_hundred_4 p_0 n4 x1 x2 k4 = some o → (∀ (x3 : Int64) (H : Heap) (locs : List Loc) (ls : Array Slot), k4 x3 = some o → va_P (dC, dI) vwCl [] H → va_S A s.heap H locs → lv_has ls 4 [(1, .long x3)] → W p l e (headSpec wsX10_hundred { frames := 0, cells := 0, slots := 0, locals := 0 }).room s m [.int p_0].toArray below meth c H locs 0 0 Q (F0 m 21 ls [])) → va_P (dC, dI) vwCl [] H → va_S A s.heap H locs → lv_has ls 4 [(0, .int p_0), (1, .long x1), (3, .int x2)] → W p l e (headSpec wsX10_hundred { frames := 0, cells := 0, slots := 0, locals := 0 }).room s m [.int p_0].toArray below meth c H locs 0 0 Q (F0 m 4 ls []) := by
    intro n4
    induction n4 with
    | zero =>
      intro x1 x2 k4 H locs ls hm
      cases (show (none : Option (Int64)) = some o from hm)
    | succ n4 ih4 =>
      intro x1 x2 k4 H locs ls hm hk4 hP hS hl
      rw [L_X10_hundred_4.eq_2] at hm
      refine lv_iload_n hx hb dX10_hundred_4 rfl (lv_at hl 2 rfl) ?_
      refine lv_iload_n hx hb dX10_hundred_5 rfl (lv_at hl 0 rfl) ?_
      refine lv_icmp_ge (tgt := 21) hx hb dX10_hundred_6 (by decide) (fun c4 => ?_) (fun c4 => ?_)
      · replace hm := ite_t c4 hm
        exact hk4 x1 _ _ _ hm hP hS (lv_sub hl [1] rfl)
      · replace hm := ite_f c4 hm
        refine lv_lload_n hx hb dX10_hundred_9 rfl (lv_at hl 1 rfl) ?_
        refine lv_ldc2 (v := (100 : Int64)) hx hb hown cl223 dX10_hundred_10 ?_
        refine lv_lmul hx hb dX10_hundred_13 ?_
        refine lv_topl (fun x5 ex5 => ?_)
        replace hm := nm_t ex5 hm
        refine lv_lstore_n (lv' := [(1, .long x5), (0, .int p_0), (3, .int x2)]) hx hb dX10_hundred_14 rfl hl (by decide) rfl (fun ls hl => ?_)
        obtain ⟨x6, ex6⟩ : ∃ y : Int32, y = x2 + (1 : Int32) := ⟨_, rfl⟩
        replace hm := nm_t ex6 hm
        refine lv_iinc (v := x6) (lv' := [(3, .int x6), (1, .long x5), (0, .int p_0)]) hx hb dX10_hundred_15 hl (k := 2) rfl (by rw [ex6]; rfl) (by decide) rfl (fun ls hl => ?_)
        refine lv_goto (tgt := 4) hx hb dX10_hundred_18 (by decide) ?_
        exact ih4 x5 x6 k4 _ _ _ hm hk4 hP hS (lv_sub hl [2, 1, 0] rfl)
  refine lp4 1024 (1 : Int64) (0 : Int32) _ _ _ _ hm (fun x3 H locs ls hm hP hS hl => ?_) hP hS (lv_sub hl [2, 1, 0] rfl)
  refine lv_lload_n hx hb dX10_hundred_21 rfl (lv_at hl 0 rfl) ?_
  obtain rfl := Option.some.inj hm
  subst hQ
  exact W.lret hx hb hr (fun t ht hW => ⟨⟨_, (), rfl, rfl, kb_h hP ht⟩, hS.F ht⟩) hS.2.2 dX10_hundred_22
set_option maxHeartbeats 4000000 in
set_option maxRecDepth 100000 in
theorem c_X10_choice (l : Launch) (dC : Nat → ClassId) (dI : Nat → Nat → Nat) (cI cJ cZ cQ : ClassId) (t sz : Nat) (a_th : Nat) (a_page : Nat) (a_one : Nat) (a_question : Nat) (a_stack : Nat) (a_yesOf : Nat) (a_noOf : Nat) (a_two : Nat) (q_text : Value) (q_book : Value) (q_bookSeed : Value) (q_kept : Value) (q_isKept : Value) (q_toldSimple : Value) (q_toldDay : Value) (q_toldYes : Value) (q_factOf : Value) (q_three : Value) (v_thrown : Int32) (v_textSize : Int32) (v_place : Int32) (v_questionSize : Int32) (v_facts : Int32) (v_isSo : Int32) (v_common : Int32) (v_readFacts : Int32) (v_readSo : Int32) (v_readCommon : Int32) (v_readDay : Int32) (v_seed : Int64) (v_acts : Int32) (v_told : Int32) (v_page : (Nat → Int32)) (v_one : (Nat → Int32)) (v_question : (Nat → Int32)) (v_stack : (Nat → Int32)) (v_yesOf : (Nat → Int32)) (v_noOf : (Nat → Int32)) (v_two : (Nat → Int32)) (p_1 : Int32) (p_2 : Int64) (p_3 : Int32) (o : Int32 × Int32 × (Nat → Int32) × (Nat → Int32) × (Nat → Int32)) (hm : m_X10_choice p_1 p_2 p_3 v_thrown v_questionSize v_facts v_isSo v_page v_one v_question v_stack v_yesOf v_noOf v_two = some o) : Met l yX10_choice wsX10_choice { frames := 5, cells := 0, slots := 0, locals := 132 } (va_Pc [.ref a_th, .int p_1, .long p_2, .int p_3] (cP (dC, dI) (kT cI cJ cZ cQ) t sz [oX10 a_th (.int v_thrown) q_text (.int v_textSize) (.int v_place) (.ref a_question) (.int v_questionSize) (.int v_facts) (.int v_isSo) (.int v_common) (.int v_readFacts) (.int v_readSo) (.int v_readCommon) (.int v_readDay) (.ref a_page) (.long v_seed) q_book q_bookSeed (.int v_acts) q_kept q_isKept (.int v_told) q_toldSimple q_toldDay q_toldYes (.ref a_yesOf) (.ref a_noOf) q_factOf (.ref a_stack) (.ref a_one) (.ref a_two) q_three, aI cI a_page 12 v_page, aI cI a_one 7 v_one, aI cI a_question 16 v_question, aI cZ a_stack 17 v_stack, aI cI a_yesOf 931 v_yesOf, aI cI a_noOf 931 v_noOf, aI cI a_two 7 v_two])) (cQi (dC, dI) (va_A [oX10 a_th (.int v_thrown) q_text (.int v_textSize) (.int v_place) (.ref a_question) (.int v_questionSize) (.int v_facts) (.int v_isSo) (.int v_common) (.int v_readFacts) (.int v_readSo) (.int v_readCommon) (.int v_readDay) (.ref a_page) (.long v_seed) q_book q_bookSeed (.int v_acts) q_kept q_isKept (.int v_told) q_toldSimple q_toldDay q_toldYes (.ref a_yesOf) (.ref a_noOf) q_factOf (.ref a_stack) (.ref a_one) (.ref a_two) q_three, aI cI a_page 12 v_page, aI cI a_one 7 v_one, aI cI a_question 16 v_question, aI cZ a_stack 17 v_stack, aI cI a_yesOf 931 v_yesOf, aI cI a_noOf 931 v_noOf, aI cI a_two 7 v_two] sz) o.1 [oX10 a_th (.int (o.2.1)) q_text (.int v_textSize) (.int v_place) (.ref a_question) (.int v_questionSize) (.int v_facts) (.int v_isSo) (.int v_common) (.int v_readFacts) (.int v_readSo) (.int v_readCommon) (.int v_readDay) (.ref a_page) (.long v_seed) q_book q_bookSeed (.int v_acts) q_kept q_isKept (.int v_told) q_toldSimple q_toldDay q_toldYes (.ref a_yesOf) (.ref a_noOf) q_factOf (.ref a_stack) (.ref a_one) (.ref a_two) q_three, aI cI a_page 12 v_page, aI cI a_one 7 (o.2.2.1), aI cI a_question 16 v_question, aI cZ a_stack 17 (o.2.2.2.1), aI cI a_yesOf 931 v_yesOf, aI cI a_noOf 931 v_noOf, aI cI a_two 7 (o.2.2.2.2)]) 0 0 (va_A [oX10 a_th (.int v_thrown) q_text (.int v_textSize) (.int v_place) (.ref a_question) (.int v_questionSize) (.int v_facts) (.int v_isSo) (.int v_common) (.int v_readFacts) (.int v_readSo) (.int v_readCommon) (.int v_readDay) (.ref a_page) (.long v_seed) q_book q_bookSeed (.int v_acts) q_kept q_isKept (.int v_told) q_toldSimple q_toldDay q_toldYes (.ref a_yesOf) (.ref a_noOf) q_factOf (.ref a_stack) (.ref a_one) (.ref a_two) q_three, aI cI a_page 12 v_page, aI cI a_one 7 v_one, aI cI a_question 16 v_question, aI cZ a_stack 17 v_stack, aI cI a_yesOf 931 v_yesOf, aI cI a_noOf 931 v_noOf, aI cI a_two 7 v_two] sz) := by
  refine Met.ofW (cc := cX10_choice) (maxL := 12) (ret := (some .int)) (by decide) rfl ?_
  intro p e s m args below meth c s₁ B hml hv
  obtain ⟨rfl, hsz, hP, hK, hD0, hG⟩ := hv
  have hx := B.exec
  have hb := B.bytes
  have hr := B.returns
  have hts := atoms_spec (ws := wsX10_choice) B.pre
  have hown : s.vm.findClass RX10 = some m.cls := findClass_of_methodNamed B.named
  have hlocks := B.notSynchronized
  subst hsz
  have hD := hD0.self (sz := s.heap.size)
  generalize hAe : va_A [oX10 a_th (.int v_thrown) q_text (.int v_textSize) (.int v_place) (.ref a_question) (.int v_questionSize) (.int v_facts) (.int v_isSo) (.int v_common) (.int v_readFacts) (.int v_readSo) (.int v_readCommon) (.int v_readDay) (.ref a_page) (.long v_seed) q_book q_bookSeed (.int v_acts) q_kept q_isKept (.int v_told) q_toldSimple q_toldDay q_toldYes (.ref a_yesOf) (.ref a_noOf) q_factOf (.ref a_stack) (.ref a_one) (.ref a_two) q_three, aI cI a_page 12 v_page, aI cI a_one 7 v_one, aI cI a_question 16 v_question, aI cZ a_stack 17 v_stack, aI cI a_yesOf 931 v_yesOf, aI cI a_noOf 931 v_noOf, aI cI a_two 7 v_two] s.heap.size = A at hD hG ⊢
  have hA : ∀ q : Nat, s.heap.size ≤ q → A q := fun q h => by rw [← hAe]; exact Or.inr h
  have hS : va_S A s.heap s.heap [] := va_S.rf
  have hl := lv_entry ([.ref a_th, .int p_1, .long p_2, .int p_3]) (n := 12) (Nat.le_of_ble_eq_true rfl)
  rw [lg_entry_eq]
  generalize (lg_sl ([.ref a_th, .int p_1, .long p_2, .int p_3]) ++ List.replicate (12 - (lg_sl ([.ref a_th, .int p_1, .long p_2, .int p_3])).length) Slot.unset).toArray = ls at hl ⊢
  have hl : lv_has ls 12 [(0, .ref a_th), (1, .int p_1), (2, .long p_2), (4, .int p_3)] := hl
  have iX10 : ∀ w ∈ wsX100, w ∈ wsX10_choice := fun _ h => List.mem_cons_of_mem _ (List.mem_append_right _ h)
  have f66 := hts (.fieldLink RX10 66 "TrueOnceWeekModel" "thrown" "I") (by decide +kernel)
  have cl225 := hts (.constantLong RX10 225 (5 : Int64)) (by decide +kernel)
  have cl223 := hts (.constantLong RX10 223 (100 : Int64)) (by decide +kernel)
  have f54 := hts (.fieldLink RX10 54 "TrueOnceWeekModel" "one" "[I") (by decide +kernel)
  have f16 := hts (.fieldLink RX10 16 "TrueOnceWeekModel" "page" "[I") (by decide +kernel)
  have f105 := hts (.fieldLink RX10 105 "TrueOnceWeekModel" "isSo" "I") (by decide +kernel)
  have f57 := hts (.fieldLink RX10 57 "TrueOnceWeekModel" "two" "[I") (by decide +kernel)
  refine kb_gen (fun Q hQ => ?_)
  unfold m_X10_choice at hm
  refine lv_aload_n hx hb dX10_choice_0 rfl (lv_at hl 0 rfl) ?_
  refine lv_iconst (v := (0 : Int32)) hx hb dX10_choice_1 (by decide) ?_
  refine va_put (D := (dC, dI)) (ci := 8) (v := .int (0 : Int32)) (ty := .int) (C := RX10) (T := TX10) (N := 31) hx hb hts iX10 tyX10 tyX10_ok nmX10 hown hK hP (kb_D hD rfl) hS 0 rfl rfl 0 (by decide) f66 (fun _ h9 => h9) rfl (by decide +kernel) rfl rfl (Nat.le_of_ble_eq_true rfl) dX10_choice_2 (fun H locs hP _ hS => ?_)
  have hP : va_P (dC, dI) vwCl [oX10 a_th (.int (0 : Int32)) q_text (.int v_textSize) (.int v_place) (.ref a_question) (.int v_questionSize) (.int v_facts) (.int v_isSo) (.int v_common) (.int v_readFacts) (.int v_readSo) (.int v_readCommon) (.int v_readDay) (.ref a_page) (.long v_seed) q_book q_bookSeed (.int v_acts) q_kept q_isKept (.int v_told) q_toldSimple q_toldDay q_toldYes (.ref a_yesOf) (.ref a_noOf) q_factOf (.ref a_stack) (.ref a_one) (.ref a_two) q_three, aI cI a_page 12 v_page, aI cI a_one 7 v_one, aI cI a_question 16 v_question, aI cZ a_stack 17 v_stack, aI cI a_yesOf 931 v_yesOf, aI cI a_noOf 931 v_noOf, aI cI a_two 7 v_two] H := hP
  refine lv_iload_n hx hb dX10_choice_5 rfl (lv_at hl 1 rfl) ?_
  refine lv_i2l (v := (Int32.toInt64 p_1)) hx hb dX10_choice_6 rfl ?_
  refine lv_lconst (v := (1 : Int64)) hx hb dX10_choice_7 (by decide) ?_
  refine lv_ldc2 (v := (5 : Int64)) hx hb hown cl225 dX10_choice_8 ?_
  obtain ⟨r1, ho2, hm⟩ := bd1_s hm
  refine kb_calli (Rv := r1) (va_runS (As := [.long (Int32.toInt64 p_1), .long (1 : Int64), .long (5 : Int64)]) (rest := []) ⟨hx, hb, hml, hown, hts⟩ (c_X10_in l dC dI cI cJ cZ cQ t H.size (Int32.toInt64 p_1) (1 : Int64) (5 : Int64) (r1) ho2) (va_cwS 3 hts gX10_choice_X10_in rfl rfl rfl (by decide +kernel) ⟨(Nat.le_of_ble_eq_true rfl), (Nat.le_of_ble_eq_true rfl)⟩) (kb_pre hK hG hP (kb_D hD rfl) hS hA [] rfl (by decide)) rfl rfl hl.1 rfl (lv_room (Nat.le_of_ble_eq_true rfl)) dX10_choice_11 ⟨Nat.zero_le _, Nat.zero_le _⟩) hP (kb_D hD rfl) hS hA [] rfl [(false, 0), (false, 1), (false, 2), (false, 3), (false, 4), (false, 5), (false, 6), (false, 7)] (w2 := [oX10 a_th (.int (0 : Int32)) q_text (.int v_textSize) (.int v_place) (.ref a_question) (.int v_questionSize) (.int v_facts) (.int v_isSo) (.int v_common) (.int v_readFacts) (.int v_readSo) (.int v_readCommon) (.int v_readDay) (.ref a_page) (.long v_seed) q_book q_bookSeed (.int v_acts) q_kept q_isKept (.int v_told) q_toldSimple q_toldDay q_toldYes (.ref a_yesOf) (.ref a_noOf) q_factOf (.ref a_stack) (.ref a_one) (.ref a_two) q_three, aI cI a_page 12 v_page, aI cI a_one 7 v_one, aI cI a_question 16 v_question, aI cZ a_stack 17 v_stack, aI cI a_yesOf 931 v_yesOf, aI cI a_noOf 931 v_noOf, aI cI a_two 7 v_two]) rfl (by decide) (fun H locs hP hS => ?_)
  refine lv_if_eq (tgt := 42) hx hb dX10_choice_14 (by decide) (fun c3 => ?_) (fun c3 => ?_)
  · replace hm := ite_t c3 hm
    refine lv_bipush (v := (-2 : Int32)) hx hb dX10_choice_42 (by decide) ?_
    obtain rfl := Option.some.inj hm
    subst hQ
    exact W.iret hx hb hr (fun t ht hW => ⟨⟨_, (), rfl, rfl, kb_h hP ht⟩, hS.F ht⟩) hS.2.2 dX10_choice_44
  · replace hm := ite_f c3 hm
    refine lv_lload_n hx hb dX10_choice_17 rfl (lv_at hl 2 rfl) ?_
    refine lv_lconst (v := (0 : Int64)) hx hb dX10_choice_18 (by decide) ?_
    refine lv_iload_n hx hb dX10_choice_19 rfl (lv_at hl 1 rfl) ?_
    obtain ⟨r4, ho5, hm⟩ := bd1_s hm
    refine kb_calll (Rv := r4) (va_runS (As := [.int p_1]) (rest := [.long (0 : Int64), .long p_2]) ⟨hx, hb, hml, hown, hts⟩ (c_X10_hundred l dC dI cI cJ cZ cQ t H.size p_1 (r4) ho5) (va_cwS 1 hts gX10_choice_X10_hundred rfl rfl rfl (by decide +kernel) ⟨(Nat.le_of_ble_eq_true rfl), (Nat.le_of_ble_eq_true rfl)⟩) (kb_pre hK hG hP (kb_D hD rfl) hS hA [] rfl (by decide)) rfl rfl hl.1 rfl (lv_room (Nat.le_of_ble_eq_true rfl)) dX10_choice_20 ⟨Nat.zero_le _, Nat.zero_le _⟩) hP (kb_D hD rfl) hS hA [] rfl [(false, 0), (false, 1), (false, 2), (false, 3), (false, 4), (false, 5), (false, 6), (false, 7)] (w2 := [oX10 a_th (.int (0 : Int32)) q_text (.int v_textSize) (.int v_place) (.ref a_question) (.int v_questionSize) (.int v_facts) (.int v_isSo) (.int v_common) (.int v_readFacts) (.int v_readSo) (.int v_readCommon) (.int v_readDay) (.ref a_page) (.long v_seed) q_book q_bookSeed (.int v_acts) q_kept q_isKept (.int v_told) q_toldSimple q_toldDay q_toldYes (.ref a_yesOf) (.ref a_noOf) q_factOf (.ref a_stack) (.ref a_one) (.ref a_two) q_three, aI cI a_page 12 v_page, aI cI a_one 7 v_one, aI cI a_question 16 v_question, aI cZ a_stack 17 v_stack, aI cI a_yesOf 931 v_yesOf, aI cI a_noOf 931 v_noOf, aI cI a_two 7 v_two]) rfl (by decide) (fun H locs hP hS => ?_)
    refine lv_lconst (v := (1 : Int64)) hx hb dX10_choice_23 (by decide) ?_
    refine lv_lsub hx hb dX10_choice_24 ?_
    obtain ⟨r6, ho7, hm⟩ := bd1_s hm
    refine kb_calli (Rv := r6) (va_runS (As := [.long p_2, .long (0 : Int64), .long (r4 - (1 : Int64))]) (rest := []) ⟨hx, hb, hml, hown, hts⟩ (c_X10_in l dC dI cI cJ cZ cQ t H.size p_2 (0 : Int64) (r4 - (1 : Int64)) (r6) ho7) (va_cwS 3 hts gX10_choice_X10_in rfl rfl rfl (by decide +kernel) ⟨(Nat.le_of_ble_eq_true rfl), (Nat.le_of_ble_eq_true rfl)⟩) (kb_pre hK hG hP (kb_D hD rfl) hS hA [] rfl (by decide)) rfl rfl hl.1 rfl (lv_room (Nat.le_of_ble_eq_true rfl)) dX10_choice_25 ⟨Nat.zero_le _, Nat.zero_le _⟩) hP (kb_D hD rfl) hS hA [] rfl [(false, 0), (false, 1), (false, 2), (false, 3), (false, 4), (false, 5), (false, 6), (false, 7)] (w2 := [oX10 a_th (.int (0 : Int32)) q_text (.int v_textSize) (.int v_place) (.ref a_question) (.int v_questionSize) (.int v_facts) (.int v_isSo) (.int v_common) (.int v_readFacts) (.int v_readSo) (.int v_readCommon) (.int v_readDay) (.ref a_page) (.long v_seed) q_book q_bookSeed (.int v_acts) q_kept q_isKept (.int v_told) q_toldSimple q_toldDay q_toldYes (.ref a_yesOf) (.ref a_noOf) q_factOf (.ref a_stack) (.ref a_one) (.ref a_two) q_three, aI cI a_page 12 v_page, aI cI a_one 7 v_one, aI cI a_question 16 v_question, aI cZ a_stack 17 v_stack, aI cI a_yesOf 931 v_yesOf, aI cI a_noOf 931 v_noOf, aI cI a_two 7 v_two]) rfl (by decide) (fun H locs hP hS => ?_)
    refine lv_if_eq (tgt := 42) hx hb dX10_choice_28 (by decide) (fun c8 => ?_) (fun c8 => ?_)
    · replace hm := ite_t c8 hm
      refine lv_bipush (v := (-2 : Int32)) hx hb dX10_choice_42 (by decide) ?_
      obtain rfl := Option.some.inj hm
      subst hQ
      exact W.iret hx hb hr (fun t ht hW => ⟨⟨_, (), rfl, rfl, kb_h hP ht⟩, hS.F ht⟩) hS.2.2 dX10_choice_44
    · replace hm := ite_f c8 hm
      refine lv_iload hx hb dX10_choice_31 (lv_at hl 3 rfl) ?_
      refine lv_i2l (v := (Int32.toInt64 p_3)) hx hb dX10_choice_33 rfl ?_
      refine lv_lconst (v := (0 : Int64)) hx hb dX10_choice_34 (by decide) ?_
      refine lv_lconst (v := (1 : Int64)) hx hb dX10_choice_35 (by decide) ?_
      obtain ⟨r9, ho10, hm⟩ := bd1_s hm
      refine kb_calli (Rv := r9) (va_runS (As := [.long (Int32.toInt64 p_3), .long (0 : Int64), .long (1 : Int64)]) (rest := []) ⟨hx, hb, hml, hown, hts⟩ (c_X10_in l dC dI cI cJ cZ cQ t H.size (Int32.toInt64 p_3) (0 : Int64) (1 : Int64) (r9) ho10) (va_cwS 3 hts gX10_choice_X10_in rfl rfl rfl (by decide +kernel) ⟨(Nat.le_of_ble_eq_true rfl), (Nat.le_of_ble_eq_true rfl)⟩) (kb_pre hK hG hP (kb_D hD rfl) hS hA [] rfl (by decide)) rfl rfl hl.1 rfl (lv_room (Nat.le_of_ble_eq_true rfl)) dX10_choice_36 ⟨Nat.zero_le _, Nat.zero_le _⟩) hP (kb_D hD rfl) hS hA [] rfl [(false, 0), (false, 1), (false, 2), (false, 3), (false, 4), (false, 5), (false, 6), (false, 7)] (w2 := [oX10 a_th (.int (0 : Int32)) q_text (.int v_textSize) (.int v_place) (.ref a_question) (.int v_questionSize) (.int v_facts) (.int v_isSo) (.int v_common) (.int v_readFacts) (.int v_readSo) (.int v_readCommon) (.int v_readDay) (.ref a_page) (.long v_seed) q_book q_bookSeed (.int v_acts) q_kept q_isKept (.int v_told) q_toldSimple q_toldDay q_toldYes (.ref a_yesOf) (.ref a_noOf) q_factOf (.ref a_stack) (.ref a_one) (.ref a_two) q_three, aI cI a_page 12 v_page, aI cI a_one 7 v_one, aI cI a_question 16 v_question, aI cZ a_stack 17 v_stack, aI cI a_yesOf 931 v_yesOf, aI cI a_noOf 931 v_noOf, aI cI a_two 7 v_two]) rfl (by decide) (fun H locs hP hS => ?_)
      refine lv_if_ne (tgt := 45) hx hb dX10_choice_39 (by decide) (fun c11 => ?_) (fun c11 => ?_)
      · replace hm := ite_f c11 hm
        refine lv_iconst (v := (0 : Int32)) hx hb dX10_choice_45 (by decide) ?_
        refine lv_istore (lv' := [(5, .int (0 : Int32)), (0, .ref a_th), (1, .int p_1), (2, .long p_2), (4, .int p_3)]) hx hb dX10_choice_46 hl (by decide) rfl (fun ls hl => ?_)
        have lp48 : ∀ (n48 : Nat) (x12 : Int32) (k48 : Option (Int32 × Int32 × (Nat → Int32) × (Nat → Int32) × (Nat → Int32))) (H : Heap) (locs : List Loc) (ls : Array Slot), L_X10_choice_48 v_facts v_one v_stack v_two p_1 p_2 n48 x12 k48 = some o → (∀ (H : Heap) (locs : List Loc) (ls : Array Slot), k48 = some o → va_P (dC, dI) vwCl [oX10 a_th (.int (0 : Int32)) q_text (.int v_textSize) (.int v_place) (.ref a_question) (.int v_questionSize) (.int v_facts) (.int v_isSo) (.int v_common) (.int v_readFacts) (.int v_readSo) (.int v_readCommon) (.int v_readDay) (.ref a_page) (.long v_seed) q_book q_bookSeed (.int v_acts) q_kept q_isKept (.int v_told) q_toldSimple q_toldDay q_toldYes (.ref a_yesOf) (.ref a_noOf) q_factOf (.ref a_stack) (.ref a_one) (.ref a_two) q_three, aI cI a_page 12 v_page, aI cI a_one 7 v_one, aI cI a_question 16 v_question, aI cZ a_stack 17 v_stack, aI cI a_yesOf 931 v_yesOf, aI cI a_noOf 931 v_noOf, aI cI a_two 7 v_two] H → va_S A s.heap H locs → lv_has ls 12 [(0, .ref a_th), (1, .int p_1), (2, .long p_2), (4, .int p_3)] → W p l e (headSpec wsX10_choice { frames := 5, cells := 0, slots := 0, locals := 132 }).room s m [.ref a_th, .int p_1, .long p_2, .int p_3].toArray below meth c H locs 0 0 Q (F0 m 86 ls [])) → va_P (dC, dI) vwCl [oX10 a_th (.int (0 : Int32)) q_text (.int v_textSize) (.int v_place) (.ref a_question) (.int v_questionSize) (.int v_facts) (.int v_isSo) (.int v_common) (.int v_readFacts) (.int v_readSo) (.int v_readCommon) (.int v_readDay) (.ref a_page) (.long v_seed) q_book q_bookSeed (.int v_acts) q_kept q_isKept (.int v_told) q_toldSimple q_toldDay q_toldYes (.ref a_yesOf) (.ref a_noOf) q_factOf (.ref a_stack) (.ref a_one) (.ref a_two) q_three, aI cI a_page 12 v_page, aI cI a_one 7 v_one, aI cI a_question 16 v_question, aI cZ a_stack 17 v_stack, aI cI a_yesOf 931 v_yesOf, aI cI a_noOf 931 v_noOf, aI cI a_two 7 v_two] H → va_S A s.heap H locs → lv_has ls 12 [(0, .ref a_th), (1, .int p_1), (2, .long p_2), (4, .int p_3), (5, .int x12)] → W p l e (headSpec wsX10_choice { frames := 5, cells := 0, slots := 0, locals := 132 }).room s m [.ref a_th, .int p_1, .long p_2, .int p_3].toArray below meth c H locs 0 0 Q (F0 m 48 ls []) := by
          intro n48
          induction n48 with
          | zero =>
            intro x12 k48 H locs ls hm
            cases (show (none : Option (Int32 × Int32 × (Nat → Int32) × (Nat → Int32) × (Nat → Int32))) = some o from hm)
          | succ n48 ih48 =>
            intro x12 k48 H locs ls hm hk48 hP hS hl
            rw [L_X10_choice_48.eq_2] at hm
            refine lv_iload hx hb dX10_choice_48 (lv_at hl 4 rfl) ?_
            refine lv_iload_n hx hb dX10_choice_50 rfl (lv_at hl 1 rfl) ?_
            refine lv_icmp_ge (tgt := 86) hx hb dX10_choice_51 (by decide) (fun c13 => ?_) (fun c13 => ?_)
            · replace hm := ite_t c13 hm
              exact hk48  _ _ _ hm hP hS (lv_sub hl [0, 1, 2, 3] rfl)
            · replace hm := ite_f c13 hm
              refine lv_aload_n hx hb dX10_choice_54 rfl (lv_at hl 0 rfl) ?_
              refine lv_lload_n hx hb dX10_choice_55 rfl (lv_at hl 2 rfl) ?_
              refine lv_iload_n hx hb dX10_choice_56 rfl (lv_at hl 1 rfl) ?_
              refine lv_iconst (v := (1 : Int32)) hx hb dX10_choice_57 (by decide) ?_
              refine lv_isub hx hb dX10_choice_58 ?_
              refine lv_iload hx hb dX10_choice_59 (lv_at hl 4 rfl) ?_
              refine lv_isub hx hb dX10_choice_61 ?_
              obtain ⟨r14, ho15, hm⟩ := bd1_s hm
              refine kb_calll (Rv := r14) (va_runS (As := [.int ((p_1 - (1 : Int32)) - x12)]) (rest := [.long p_2, .ref a_th]) ⟨hx, hb, hml, hown, hts⟩ (c_X10_hundred l dC dI cI cJ cZ cQ t H.size ((p_1 - (1 : Int32)) - x12) (r14) ho15) (va_cwS 1 hts gX10_choice_X10_hundred rfl rfl rfl (by decide +kernel) ⟨(Nat.le_of_ble_eq_true rfl), (Nat.le_of_ble_eq_true rfl)⟩) (kb_pre hK hG hP (kb_D hD rfl) hS hA [] rfl (by decide)) rfl rfl hl.1 rfl (lv_room (Nat.le_of_ble_eq_true rfl)) dX10_choice_62 ⟨Nat.zero_le _, Nat.zero_le _⟩) hP (kb_D hD rfl) hS hA [] rfl [(false, 0), (false, 1), (false, 2), (false, 3), (false, 4), (false, 5), (false, 6), (false, 7)] (w2 := [oX10 a_th (.int (0 : Int32)) q_text (.int v_textSize) (.int v_place) (.ref a_question) (.int v_questionSize) (.int v_facts) (.int v_isSo) (.int v_common) (.int v_readFacts) (.int v_readSo) (.int v_readCommon) (.int v_readDay) (.ref a_page) (.long v_seed) q_book q_bookSeed (.int v_acts) q_kept q_isKept (.int v_told) q_toldSimple q_toldDay q_toldYes (.ref a_yesOf) (.ref a_noOf) q_factOf (.ref a_stack) (.ref a_one) (.ref a_two) q_three, aI cI a_page 12 v_page, aI cI a_one 7 v_one, aI cI a_question 16 v_question, aI cZ a_stack 17 v_stack, aI cI a_yesOf 931 v_yesOf, aI cI a_noOf 931 v_noOf, aI cI a_two 7 v_two]) rfl (by decide) (fun H locs hP hS => ?_)
              obtain ⟨h16, hm⟩ := gd_s hm
              refine lv_ldiv hx hb dX10_choice_65 (nzL_s h16) ?_
              refine lv_ldc2 (v := (100 : Int64)) hx hb hown cl223 dX10_choice_66 ?_
              refine lv_lrem hx hb dX10_choice_69 (by decide) ?_
              refine lv_l2i (v := (Int64.toInt32 ((p_2 / r14) - (p_2 / r14) / (100 : Int64) * (100 : Int64)))) hx hb dX10_choice_70 rfl ?_
              obtain ⟨r17, ho18, hm⟩ := bd1_s hm
              refine kb_calli (Rv := r17) (va_runV (As := [.int (Int64.toInt32 ((p_2 / r14) - (p_2 / r14) / (100 : Int64) * (100 : Int64)))]) (rest := []) ⟨hx, hb, hml, hown, hts⟩ (c_X10_noSimple l dC dI cI cJ cZ cQ t H.size a_th q_text (.ref a_question) (.ref a_page) q_book q_bookSeed q_kept q_isKept q_toldSimple q_toldDay q_toldYes (.ref a_yesOf) (.ref a_noOf) q_factOf (.ref a_stack) (.ref a_one) (.ref a_two) q_three (0 : Int32) v_textSize v_place v_questionSize v_facts v_isSo v_common v_readFacts v_readSo v_readCommon v_readDay v_seed v_acts v_told (Int64.toInt32 ((p_2 / r14) - (p_2 / r14) / (100 : Int64) * (100 : Int64))) (r17) ho18) (cwV 1 hts gX10_choice_X10_noSimple rfl rfl rfl (by decide +kernel) ⟨(Nat.le_of_ble_eq_true rfl), (Nat.le_of_ble_eq_true rfl)⟩) ⟨(kb_pre hK hG hP (kb_D hD rfl) hS hA [0] rfl (by decide)).1, (va_recv hK hP (ci := 8) (q0 := 0) rfl rfl), (kb_pre hK hG hP (kb_D hD rfl) hS hA [0] rfl (by decide)).2⟩ rfl rfl hl.1 rfl (lv_room (Nat.le_of_ble_eq_true rfl)) dX10_choice_71 ⟨Nat.zero_le _, Nat.zero_le _⟩) hP (kb_D hD rfl) hS hA [0] rfl [(true, 0), (false, 1), (false, 2), (false, 3), (false, 4), (false, 5), (false, 6), (false, 7)] (w2 := [oX10 a_th (.int (0 : Int32)) q_text (.int v_textSize) (.int v_place) (.ref a_question) (.int v_questionSize) (.int v_facts) (.int v_isSo) (.int v_common) (.int v_readFacts) (.int v_readSo) (.int v_readCommon) (.int v_readDay) (.ref a_page) (.long v_seed) q_book q_bookSeed (.int v_acts) q_kept q_isKept (.int v_told) q_toldSimple q_toldDay q_toldYes (.ref a_yesOf) (.ref a_noOf) q_factOf (.ref a_stack) (.ref a_one) (.ref a_two) q_three, aI cI a_page 12 v_page, aI cI a_one 7 v_one, aI cI a_question 16 v_question, aI cZ a_stack 17 v_stack, aI cI a_yesOf 931 v_yesOf, aI cI a_noOf 931 v_noOf, aI cI a_two 7 v_two]) rfl (by decide) (fun H locs hP hS => ?_)
              refine lv_if_eq (tgt := 80) hx hb dX10_choice_74 (by decide) (fun c19 => ?_) (fun c19 => ?_)
              · replace hm := ite_t c19 hm
                obtain ⟨x20, ex20⟩ : ∃ y : Int32, y = x12 + (1 : Int32) := ⟨_, rfl⟩
                replace hm := nm_t ex20 hm
                refine lv_iinc (v := x20) (lv' := [(5, .int x20), (0, .ref a_th), (1, .int p_1), (2, .long p_2), (4, .int p_3)]) hx hb dX10_choice_80 hl (k := 4) rfl (by rw [ex20]; rfl) (by decide) rfl (fun ls hl => ?_)
                refine lv_goto (tgt := 48) hx hb dX10_choice_83 (by decide) ?_
                exact ih48 x20 k48 _ _ _ hm hk48 hP hS (lv_sub hl [1, 2, 3, 4, 0] rfl)
              · replace hm := ite_f c19 hm
                refine lv_bipush (v := (-2 : Int32)) hx hb dX10_choice_77 (by decide) ?_
                obtain rfl := Option.some.inj hm
                subst hQ
                exact W.iret hx hb hr (fun t ht hW => ⟨⟨_, (), rfl, rfl, kb_h hP ht⟩, hS.F ht⟩) hS.2.2 dX10_choice_79
        refine lp48 1024 (0 : Int32) _ _ _ _ hm (fun  H locs ls hm hP hS hl => ?_) hP hS (lv_sub hl [1, 2, 3, 4, 0] rfl)
        refine lv_bipush (v := (-9 : Int32)) hx hb dX10_choice_86 (by decide) ?_
        refine lv_istore (lv' := [(5, .int (-9 : Int32)), (0, .ref a_th), (1, .int p_1), (2, .long p_2), (4, .int p_3)]) hx hb dX10_choice_88 hl (by decide) rfl (fun ls hl => ?_)
        refine lv_bipush (v := (-9 : Int32)) hx hb dX10_choice_90 (by decide) ?_
        refine lv_istore (lv' := [(6, .int (-9 : Int32)), (5, .int (-9 : Int32)), (0, .ref a_th), (1, .int p_1), (2, .long p_2), (4, .int p_3)]) hx hb dX10_choice_92 hl (by decide) rfl (fun ls hl => ?_)
        refine lv_iconst (v := (0 : Int32)) hx hb dX10_choice_94 (by decide) ?_
        refine lv_istore (lv' := [(7, .int (0 : Int32)), (6, .int (-9 : Int32)), (5, .int (-9 : Int32)), (0, .ref a_th), (1, .int p_1), (2, .long p_2), (4, .int p_3)]) hx hb dX10_choice_95 hl (by decide) rfl (fun ls hl => ?_)
        have lp97 : ∀ (n97 : Nat) (x21 : Int32) (x22 : Int32) (x23 : Int32) (w24 : (Nat → Int32)) (w25 : (Nat → Int32)) (w26 : (Nat → Int32)) (k97 : Int32 → Int32 → (Nat → Int32) → (Nat → Int32) → (Nat → Int32) → Option (Int32 × Int32 × (Nat → Int32) × (Nat → Int32) × (Nat → Int32))) (H : Heap) (locs : List Loc) (ls : Array Slot), L_X10_choice_97 v_questionSize v_facts v_isSo v_page v_question v_yesOf v_noOf p_1 p_2 n97 x21 x22 x23 w24 w25 w26 k97 = some o → (∀ (x27 : Int32) (x28 : Int32) (w29 : (Nat → Int32)) (w30 : (Nat → Int32)) (w31 : (Nat → Int32)) (H : Heap) (locs : List Loc) (ls : Array Slot), k97 x27 x28 w29 w30 w31 = some o → va_P (dC, dI) vwCl [oX10 a_th (.int (0 : Int32)) q_text (.int v_textSize) (.int v_place) (.ref a_question) (.int v_questionSize) (.int v_facts) (.int v_isSo) (.int v_common) (.int v_readFacts) (.int v_readSo) (.int v_readCommon) (.int v_readDay) (.ref a_page) (.long v_seed) q_book q_bookSeed (.int v_acts) q_kept q_isKept (.int v_told) q_toldSimple q_toldDay q_toldYes (.ref a_yesOf) (.ref a_noOf) q_factOf (.ref a_stack) (.ref a_one) (.ref a_two) q_three, aI cI a_page 12 v_page, aI cI a_one 7 w29, aI cI a_question 16 v_question, aI cZ a_stack 17 w30, aI cI a_yesOf 931 v_yesOf, aI cI a_noOf 931 v_noOf, aI cI a_two 7 w31] H → va_S A s.heap H locs → lv_has ls 12 [(4, .int p_3), (5, .int x27), (6, .int x28)] → W p l e (headSpec wsX10_choice { frames := 5, cells := 0, slots := 0, locals := 132 }).room s m [.ref a_th, .int p_1, .long p_2, .int p_3].toArray below meth c H locs 0 0 Q (F0 m 271 ls [])) → va_P (dC, dI) vwCl [oX10 a_th (.int (0 : Int32)) q_text (.int v_textSize) (.int v_place) (.ref a_question) (.int v_questionSize) (.int v_facts) (.int v_isSo) (.int v_common) (.int v_readFacts) (.int v_readSo) (.int v_readCommon) (.int v_readDay) (.ref a_page) (.long v_seed) q_book q_bookSeed (.int v_acts) q_kept q_isKept (.int v_told) q_toldSimple q_toldDay q_toldYes (.ref a_yesOf) (.ref a_noOf) q_factOf (.ref a_stack) (.ref a_one) (.ref a_two) q_three, aI cI a_page 12 v_page, aI cI a_one 7 w24, aI cI a_question 16 v_question, aI cZ a_stack 17 w25, aI cI a_yesOf 931 v_yesOf, aI cI a_noOf 931 v_noOf, aI cI a_two 7 w26] H → va_S A s.heap H locs → lv_has ls 12 [(0, .ref a_th), (1, .int p_1), (2, .long p_2), (4, .int p_3), (5, .int x21), (6, .int x22), (7, .int x23)] → W p l e (headSpec wsX10_choice { frames := 5, cells := 0, slots := 0, locals := 132 }).room s m [.ref a_th, .int p_1, .long p_2, .int p_3].toArray below meth c H locs 0 0 Q (F0 m 97 ls []) := by
          intro n97
          induction n97 with
          | zero =>
            intro x21 x22 x23 w24 w25 w26 k97 H locs ls hm
            cases (show (none : Option (Int32 × Int32 × (Nat → Int32) × (Nat → Int32) × (Nat → Int32))) = some o from hm)
          | succ n97 ih97 =>
            intro x21 x22 x23 w24 w25 w26 k97 H locs ls hm hk97 hP hS hl
            rw [L_X10_choice_97.eq_2] at hm
            refine lv_iload hx hb dX10_choice_97 (lv_at hl 6 rfl) ?_
            refine lv_bipush (v := (7 : Int32)) hx hb dX10_choice_99 (by decide) ?_
            refine lv_icmp_ge (tgt := 271) hx hb dX10_choice_101 (by decide) (fun c32 => ?_) (fun c32 => ?_)
            · replace hm := ite_t c32 hm
              exact hk97 x21 x22 w24 w25 w26 _ _ _ hm hP hS (lv_sub hl [3, 4, 5] rfl)
            · replace hm := ite_f c32 hm
              refine lv_iconst (v := (0 : Int32)) hx hb dX10_choice_104 (by decide) ?_
              refine lv_istore (lv' := [(8, .int (0 : Int32)), (0, .ref a_th), (1, .int p_1), (2, .long p_2), (4, .int p_3), (5, .int x21), (6, .int x22), (7, .int x23)]) hx hb dX10_choice_105 hl (by decide) rfl (fun ls hl => ?_)
              have lp107 : ∀ (n107 : Nat) (x33 : Int32) (w34 : (Nat → Int32)) (k107 : (Nat → Int32) → Option (Int32 × Int32 × (Nat → Int32) × (Nat → Int32) × (Nat → Int32))) (H : Heap) (locs : List Loc) (ls : Array Slot), L_X10_choice_107 v_page n107 x33 w34 k107 = some o → (∀ (w35 : (Nat → Int32)) (H : Heap) (locs : List Loc) (ls : Array Slot), k107 w35 = some o → va_P (dC, dI) vwCl [oX10 a_th (.int (0 : Int32)) q_text (.int v_textSize) (.int v_place) (.ref a_question) (.int v_questionSize) (.int v_facts) (.int v_isSo) (.int v_common) (.int v_readFacts) (.int v_readSo) (.int v_readCommon) (.int v_readDay) (.ref a_page) (.long v_seed) q_book q_bookSeed (.int v_acts) q_kept q_isKept (.int v_told) q_toldSimple q_toldDay q_toldYes (.ref a_yesOf) (.ref a_noOf) q_factOf (.ref a_stack) (.ref a_one) (.ref a_two) q_three, aI cI a_page 12 v_page, aI cI a_one 7 w35, aI cI a_question 16 v_question, aI cZ a_stack 17 w25, aI cI a_yesOf 931 v_yesOf, aI cI a_noOf 931 v_noOf, aI cI a_two 7 w26] H → va_S A s.heap H locs → lv_has ls 12 [(0, .ref a_th), (1, .int p_1), (2, .long p_2), (4, .int p_3), (5, .int x21), (6, .int x22), (7, .int x23)] → W p l e (headSpec wsX10_choice { frames := 5, cells := 0, slots := 0, locals := 132 }).room s m [.ref a_th, .int p_1, .long p_2, .int p_3].toArray below meth c H locs 0 0 Q (F0 m 134 ls [])) → va_P (dC, dI) vwCl [oX10 a_th (.int (0 : Int32)) q_text (.int v_textSize) (.int v_place) (.ref a_question) (.int v_questionSize) (.int v_facts) (.int v_isSo) (.int v_common) (.int v_readFacts) (.int v_readSo) (.int v_readCommon) (.int v_readDay) (.ref a_page) (.long v_seed) q_book q_bookSeed (.int v_acts) q_kept q_isKept (.int v_told) q_toldSimple q_toldDay q_toldYes (.ref a_yesOf) (.ref a_noOf) q_factOf (.ref a_stack) (.ref a_one) (.ref a_two) q_three, aI cI a_page 12 v_page, aI cI a_one 7 w34, aI cI a_question 16 v_question, aI cZ a_stack 17 w25, aI cI a_yesOf 931 v_yesOf, aI cI a_noOf 931 v_noOf, aI cI a_two 7 w26] H → va_S A s.heap H locs → lv_has ls 12 [(0, .ref a_th), (1, .int p_1), (2, .long p_2), (4, .int p_3), (5, .int x21), (6, .int x22), (7, .int x23), (8, .int x33)] → W p l e (headSpec wsX10_choice { frames := 5, cells := 0, slots := 0, locals := 132 }).room s m [.ref a_th, .int p_1, .long p_2, .int p_3].toArray below meth c H locs 0 0 Q (F0 m 107 ls []) := by
                intro n107
                induction n107 with
                | zero =>
                  intro x33 w34 k107 H locs ls hm
                  cases (show (none : Option (Int32 × Int32 × (Nat → Int32) × (Nat → Int32) × (Nat → Int32))) = some o from hm)
                | succ n107 ih107 =>
                  intro x33 w34 k107 H locs ls hm hk107 hP hS hl
                  rw [L_X10_choice_107.eq_2] at hm
                  refine lv_iload hx hb dX10_choice_107 (lv_at hl 7 rfl) ?_
                  refine lv_bipush (v := (7 : Int32)) hx hb dX10_choice_109 (by decide) ?_
                  refine lv_icmp_ge (tgt := 134) hx hb dX10_choice_111 (by decide) (fun c36 => ?_) (fun c36 => ?_)
                  · replace hm := ite_t c36 hm
                    exact hk107 w34 _ _ _ hm hP hS (lv_sub hl [0, 1, 2, 3, 4, 5, 6] rfl)
                  · replace hm := ite_f c36 hm
                    refine lv_aload_n hx hb dX10_choice_114 rfl (lv_at hl 0 rfl) ?_
                    refine va_get (D := (dC, dI)) (ci := 8) (v := .ref a_one) (C := RX10) (T := TX10) (N := 31) hx hb hts iX10 hown hK hP 0 rfl rfl 28 (by decide) f54 (fun _ h9 => h9) rfl dX10_choice_115 ?_
                    refine lv_iload hx hb dX10_choice_118 (lv_at hl 7 rfl) ?_
                    refine lv_aload_n hx hb dX10_choice_120 rfl (lv_at hl 0 rfl) ?_
                    refine va_get (D := (dC, dI)) (ci := 8) (v := .ref a_page) (C := RX10) (T := TX10) (N := 31) hx hb hts iX10 hown hK hP 0 rfl rfl 13 (by decide) f16 (fun _ h9 => h9) rfl dX10_choice_121 ?_
                    refine lv_iload hx hb dX10_choice_124 (lv_at hl 7 rfl) ?_
                    obtain ⟨h37, hm⟩ := gd_s hm
                    refine va_iald hx hb hK hP 1 0 rfl rfl (inB_s h37) dX10_choice_126 ?_
                    obtain ⟨h38, hm⟩ := gd_s hm
                    refine va_iast hx hb hK hP (kb_D hD rfl) hS 2 0 rfl rfl (inB_s h38) dX10_choice_127 (fun H locs hP _ hS => ?_)
                    have hP : va_P (dC, dI) vwCl [oX10 a_th (.int (0 : Int32)) q_text (.int v_textSize) (.int v_place) (.ref a_question) (.int v_questionSize) (.int v_facts) (.int v_isSo) (.int v_common) (.int v_readFacts) (.int v_readSo) (.int v_readCommon) (.int v_readDay) (.ref a_page) (.long v_seed) q_book q_bookSeed (.int v_acts) q_kept q_isKept (.int v_told) q_toldSimple q_toldDay q_toldYes (.ref a_yesOf) (.ref a_noOf) q_factOf (.ref a_stack) (.ref a_one) (.ref a_two) q_three, aI cI a_page 12 v_page, aI cI a_one 7 (upd w34 (Int32.toNatClampNeg x33) (v_page (Int32.toNatClampNeg x33))), aI cI a_question 16 v_question, aI cZ a_stack 17 w25, aI cI a_yesOf 931 v_yesOf, aI cI a_noOf 931 v_noOf, aI cI a_two 7 w26] H := hP
                    obtain ⟨x39, ex39⟩ : ∃ y : Int32, y = x33 + (1 : Int32) := ⟨_, rfl⟩
                    replace hm := nm_t ex39 hm
                    refine lv_iinc (v := x39) (lv' := [(8, .int x39), (0, .ref a_th), (1, .int p_1), (2, .long p_2), (4, .int p_3), (5, .int x21), (6, .int x22), (7, .int x23)]) hx hb dX10_choice_128 hl (k := 7) rfl (by rw [ex39]; rfl) (by decide) rfl (fun ls hl => ?_)
                    refine lv_goto (tgt := 107) hx hb dX10_choice_131 (by decide) ?_
                    exact ih107 x39 (upd w34 (Int32.toNatClampNeg x33) (v_page (Int32.toNatClampNeg x33))) k107 _ _ _ hm hk107 hP hS (lv_sub hl [1, 2, 3, 4, 5, 6, 7, 0] rfl)
              refine lp107 1024 (0 : Int32) w24 _ _ _ _ hm (fun w35 H locs ls hm hP hS hl => ?_) hP hS (lv_sub hl [1, 2, 3, 4, 5, 6, 7, 0] rfl)
              refine lv_iconst (v := (0 : Int32)) hx hb dX10_choice_134 (by decide) ?_
              refine lv_istore (lv' := [(8, .int (0 : Int32)), (0, .ref a_th), (1, .int p_1), (2, .long p_2), (4, .int p_3), (5, .int x21), (6, .int x22), (7, .int x23)]) hx hb dX10_choice_135 hl (by decide) rfl (fun ls hl => ?_)
              have lp137 : ∀ (n137 : Nat) (x40 : Int32) (w41 : (Nat → Int32)) (w42 : (Nat → Int32)) (w43 : (Nat → Int32)) (k137 : (Nat → Int32) → (Nat → Int32) → (Nat → Int32) → Option (Int32 × Int32 × (Nat → Int32) × (Nat → Int32) × (Nat → Int32))) (H : Heap) (locs : List Loc) (ls : Array Slot), L_X10_choice_137 v_questionSize v_facts v_isSo v_page v_question v_yesOf v_noOf p_1 p_2 x23 n137 x40 w41 w42 w43 k137 = some o → (∀ (w44 : (Nat → Int32)) (w45 : (Nat → Int32)) (w46 : (Nat → Int32)) (H : Heap) (locs : List Loc) (ls : Array Slot), k137 w44 w45 w46 = some o → va_P (dC, dI) vwCl [oX10 a_th (.int (0 : Int32)) q_text (.int v_textSize) (.int v_place) (.ref a_question) (.int v_questionSize) (.int v_facts) (.int v_isSo) (.int v_common) (.int v_readFacts) (.int v_readSo) (.int v_readCommon) (.int v_readDay) (.ref a_page) (.long v_seed) q_book q_bookSeed (.int v_acts) q_kept q_isKept (.int v_told) q_toldSimple q_toldDay q_toldYes (.ref a_yesOf) (.ref a_noOf) q_factOf (.ref a_stack) (.ref a_one) (.ref a_two) q_three, aI cI a_page 12 v_page, aI cI a_one 7 w44, aI cI a_question 16 v_question, aI cZ a_stack 17 w45, aI cI a_yesOf 931 v_yesOf, aI cI a_noOf 931 v_noOf, aI cI a_two 7 w46] H → va_S A s.heap H locs → lv_has ls 12 [(0, .ref a_th), (1, .int p_1), (2, .long p_2), (4, .int p_3), (5, .int x21), (6, .int x22), (7, .int x23)] → W p l e (headSpec wsX10_choice { frames := 5, cells := 0, slots := 0, locals := 132 }).room s m [.ref a_th, .int p_1, .long p_2, .int p_3].toArray below meth c H locs 0 0 Q (F0 m 241 ls [])) → va_P (dC, dI) vwCl [oX10 a_th (.int (0 : Int32)) q_text (.int v_textSize) (.int v_place) (.ref a_question) (.int v_questionSize) (.int v_facts) (.int v_isSo) (.int v_common) (.int v_readFacts) (.int v_readSo) (.int v_readCommon) (.int v_readDay) (.ref a_page) (.long v_seed) q_book q_bookSeed (.int v_acts) q_kept q_isKept (.int v_told) q_toldSimple q_toldDay q_toldYes (.ref a_yesOf) (.ref a_noOf) q_factOf (.ref a_stack) (.ref a_one) (.ref a_two) q_three, aI cI a_page 12 v_page, aI cI a_one 7 w41, aI cI a_question 16 v_question, aI cZ a_stack 17 w42, aI cI a_yesOf 931 v_yesOf, aI cI a_noOf 931 v_noOf, aI cI a_two 7 w43] H → va_S A s.heap H locs → lv_has ls 12 [(0, .ref a_th), (1, .int p_1), (2, .long p_2), (4, .int p_3), (5, .int x21), (6, .int x22), (7, .int x23), (8, .int x40)] → W p l e (headSpec wsX10_choice { frames := 5, cells := 0, slots := 0, locals := 132 }).room s m [.ref a_th, .int p_1, .long p_2, .int p_3].toArray below meth c H locs 0 0 Q (F0 m 137 ls []) := by
                intro n137
                induction n137 with
                | zero =>
                  intro x40 w41 w42 w43 k137 H locs ls hm
                  cases (show (none : Option (Int32 × Int32 × (Nat → Int32) × (Nat → Int32) × (Nat → Int32))) = some o from hm)
                | succ n137 ih137 =>
                  intro x40 w41 w42 w43 k137 H locs ls hm hk137 hP hS hl
                  rw [L_X10_choice_137.eq_2] at hm
                  refine lv_iload hx hb dX10_choice_137 (lv_at hl 7 rfl) ?_
                  refine lv_iload_n hx hb dX10_choice_139 rfl (lv_at hl 1 rfl) ?_
                  refine lv_icmp_ge (tgt := 241) hx hb dX10_choice_140 (by decide) (fun c47 => ?_) (fun c47 => ?_)
                  · replace hm := ite_t c47 hm
                    exact hk137 w41 w42 w43 _ _ _ hm hP hS (lv_sub hl [0, 1, 2, 3, 4, 5, 6] rfl)
                  · replace hm := ite_f c47 hm
                    refine lv_lload_n hx hb dX10_choice_143 rfl (lv_at hl 2 rfl) ?_
                    refine lv_iload_n hx hb dX10_choice_144 rfl (lv_at hl 1 rfl) ?_
                    refine lv_iconst (v := (1 : Int32)) hx hb dX10_choice_145 (by decide) ?_
                    refine lv_isub hx hb dX10_choice_146 ?_
                    refine lv_iload hx hb dX10_choice_147 (lv_at hl 7 rfl) ?_
                    refine lv_isub hx hb dX10_choice_149 ?_
                    obtain ⟨r48, ho49, hm⟩ := bd1_s hm
                    refine kb_calll (Rv := r48) (va_runS (As := [.int ((p_1 - (1 : Int32)) - x40)]) (rest := [.long p_2]) ⟨hx, hb, hml, hown, hts⟩ (c_X10_hundred l dC dI cI cJ cZ cQ t H.size ((p_1 - (1 : Int32)) - x40) (r48) ho49) (va_cwS 1 hts gX10_choice_X10_hundred rfl rfl rfl (by decide +kernel) ⟨(Nat.le_of_ble_eq_true rfl), (Nat.le_of_ble_eq_true rfl)⟩) (kb_pre hK hG hP (kb_D hD rfl) hS hA [] rfl (by decide)) rfl rfl hl.1 rfl (lv_room (Nat.le_of_ble_eq_true rfl)) dX10_choice_150 ⟨Nat.zero_le _, Nat.zero_le _⟩) hP (kb_D hD rfl) hS hA [] rfl [(false, 0), (false, 1), (false, 2), (false, 3), (false, 4), (false, 5), (false, 6), (false, 7)] (w2 := [oX10 a_th (.int (0 : Int32)) q_text (.int v_textSize) (.int v_place) (.ref a_question) (.int v_questionSize) (.int v_facts) (.int v_isSo) (.int v_common) (.int v_readFacts) (.int v_readSo) (.int v_readCommon) (.int v_readDay) (.ref a_page) (.long v_seed) q_book q_bookSeed (.int v_acts) q_kept q_isKept (.int v_told) q_toldSimple q_toldDay q_toldYes (.ref a_yesOf) (.ref a_noOf) q_factOf (.ref a_stack) (.ref a_one) (.ref a_two) q_three, aI cI a_page 12 v_page, aI cI a_one 7 w41, aI cI a_question 16 v_question, aI cZ a_stack 17 w42, aI cI a_yesOf 931 v_yesOf, aI cI a_noOf 931 v_noOf, aI cI a_two 7 w43]) rfl (by decide) (fun H locs hP hS => ?_)
                    obtain ⟨h50, hm⟩ := gd_s hm
                    refine lv_ldiv hx hb dX10_choice_153 (nzL_s h50) ?_
                    refine lv_ldc2 (v := (100 : Int64)) hx hb hown cl223 dX10_choice_154 ?_
                    refine lv_lrem hx hb dX10_choice_157 (by decide) ?_
                    refine lv_l2i (v := (Int64.toInt32 ((p_2 / r48) - (p_2 / r48) / (100 : Int64) * (100 : Int64)))) hx hb dX10_choice_158 rfl ?_
                    refine lv_topi (fun x51 ex51 => ?_)
                    replace hm := nm_t ex51 hm
                    refine lv_istore (lv' := [(9, .int x51), (0, .ref a_th), (1, .int p_1), (2, .long p_2), (4, .int p_3), (5, .int x21), (6, .int x22), (7, .int x23), (8, .int x40)]) hx hb dX10_choice_159 hl (by decide) rfl (fun ls hl => ?_)
                    refine lv_aload_n hx hb dX10_choice_161 rfl (lv_at hl 1 rfl) ?_
                    refine va_get (D := (dC, dI)) (ci := 8) (v := .ref a_page) (C := RX10) (T := TX10) (N := 31) hx hb hts iX10 hown hK hP 0 rfl rfl 13 (by decide) f16 (fun _ h9 => h9) rfl dX10_choice_162 ?_
                    refine lv_bipush (v := (7 : Int32)) hx hb dX10_choice_165 (by decide) ?_
                    refine va_iald hx hb hK hP 1 0 rfl rfl (inB_s (by decide)) dX10_choice_167 ?_
                    refine lv_iload hx hb dX10_choice_168 (lv_at hl 8 rfl) ?_
                    refine lv_iadd hx hb dX10_choice_170 ?_
                    refine lv_topi (fun x52 ex52 => ?_)
                    replace hm := nm_t ex52 hm
                    refine lv_istore (lv' := [(10, .int x52), (9, .int x51), (0, .ref a_th), (1, .int p_1), (2, .long p_2), (4, .int p_3), (5, .int x21), (6, .int x22), (7, .int x23), (8, .int x40)]) hx hb dX10_choice_171 hl (by decide) rfl (fun ls hl => ?_)
                    refine lv_aload_n hx hb dX10_choice_173 rfl (lv_at hl 2 rfl) ?_
                    refine lv_aload_n hx hb dX10_choice_174 rfl (lv_at hl 2 rfl) ?_
                    refine va_get (D := (dC, dI)) (ci := 8) (v := .ref a_one) (C := RX10) (T := TX10) (N := 31) hx hb hts iX10 hown hK hP 0 rfl rfl 28 (by decide) f54 (fun _ h9 => h9) rfl dX10_choice_175 ?_
                    refine lv_iload hx hb dX10_choice_178 (lv_at hl 1 rfl) ?_
                    refine lv_iload hx hb dX10_choice_180 (lv_at hl 0 rfl) ?_
                    refine lv_aload_n hx hb dX10_choice_182 rfl (lv_at hl 2 rfl) ?_
                    refine lv_iload hx hb dX10_choice_183 (lv_at hl 1 rfl) ?_
                    refine lv_iload hx hb dX10_choice_185 (lv_at hl 0 rfl) ?_
                    refine lv_iload hx hb dX10_choice_187 (lv_at hl 8 rfl) ?_
                    refine lv_iload hx hb dX10_choice_189 (lv_at hl 8 rfl) ?_
                    refine lv_aload_n hx hb dX10_choice_191 rfl (lv_at hl 2 rfl) ?_
                    refine va_get (D := (dC, dI)) (ci := 8) (v := .int v_isSo) (C := RX10) (T := TX10) (N := 31) hx hb hts iX10 hown hK hP 0 rfl rfl 7 (by decide) f105 (fun _ h9 => h9) rfl dX10_choice_192 ?_
                    obtain ⟨r53, w54, ho55, hm⟩ := bd2_s hm
                    refine kb_calli (Rv := r53) (va_runV (As := [.int x51, .int x52, .int x23, .int x23, .int v_isSo]) (rest := [.int x52, .int x51, .ref a_one, .ref a_th]) ⟨hx, hb, hml, hown, hts⟩ (c_X10_answerOf l dC dI cI cJ cZ cQ t H.size a_th a_question a_stack q_text (.ref a_page) q_book q_bookSeed q_kept q_isKept q_toldSimple q_toldDay q_toldYes (.ref a_yesOf) (.ref a_noOf) q_factOf (.ref a_one) (.ref a_two) q_three (0 : Int32) v_textSize v_place v_questionSize v_facts v_isSo v_common v_readFacts v_readSo v_readCommon v_readDay v_seed v_acts v_told v_question w42 x51 x52 x23 x23 v_isSo (r53, w54) ho55) (cwV 5 hts gX10_choice_X10_answerOf rfl rfl rfl (by decide +kernel) ⟨(Nat.le_of_ble_eq_true rfl), (Nat.le_of_ble_eq_true rfl)⟩) ⟨(kb_pre hK hG hP (kb_D hD rfl) hS hA [0, 3, 4] rfl (by decide)).1, (va_recv hK hP (ci := 8) (q0 := 0) rfl rfl), (kb_pre hK hG hP (kb_D hD rfl) hS hA [0, 3, 4] rfl (by decide)).2⟩ rfl rfl hl.1 rfl (lv_room (Nat.le_of_ble_eq_true rfl)) dX10_choice_195 ⟨Nat.zero_le _, Nat.zero_le _⟩) hP (kb_D hD rfl) hS hA [0, 3, 4] rfl [(true, 0), (false, 1), (false, 2), (true, 1), (true, 2), (false, 5), (false, 6), (false, 7)] (w2 := [oX10 a_th (.int (0 : Int32)) q_text (.int v_textSize) (.int v_place) (.ref a_question) (.int v_questionSize) (.int v_facts) (.int v_isSo) (.int v_common) (.int v_readFacts) (.int v_readSo) (.int v_readCommon) (.int v_readDay) (.ref a_page) (.long v_seed) q_book q_bookSeed (.int v_acts) q_kept q_isKept (.int v_told) q_toldSimple q_toldDay q_toldYes (.ref a_yesOf) (.ref a_noOf) q_factOf (.ref a_stack) (.ref a_one) (.ref a_two) q_three, aI cI a_page 12 v_page, aI cI a_one 7 w41, aI cI a_question 16 v_question, aI cZ a_stack 17 w54, aI cI a_yesOf 931 v_yesOf, aI cI a_noOf 931 v_noOf, aI cI a_two 7 w43]) rfl (by decide) (fun H locs hP hS => ?_)
                    refine lv_aload_n hx hb dX10_choice_198 rfl (lv_at hl 2 rfl) ?_
                    refine va_get (D := (dC, dI)) (ci := 8) (v := .ref a_two) (C := RX10) (T := TX10) (N := 31) hx hb hts iX10 hown hK hP 0 rfl rfl 29 (by decide) f57 (fun _ h9 => h9) rfl dX10_choice_199 ?_
                    obtain ⟨w56, w57, ho58, hm⟩ := bd2_s hm
                    refine kb_callv (va_runV (As := [.ref a_one, .int x51, .int x52, .int r53, .ref a_two]) (rest := []) ⟨hx, hb, hml, hown, hts⟩ (c_X10_part l dC dI cI cJ cZ cQ t H.size a_th a_one a_question a_stack a_yesOf a_noOf a_two 7 7 q_text (.ref a_page) q_book q_bookSeed q_kept q_isKept q_toldSimple q_toldDay q_toldYes q_factOf (.ref a_one) (.ref a_two) q_three (0 : Int32) v_textSize v_place v_questionSize v_facts v_isSo v_common v_readFacts v_readSo v_readCommon v_readDay v_seed v_acts v_told w41 v_question w54 v_yesOf v_noOf w43 x51 x52 r53 (w56, w57) ho58) (cwV 5 hts gX10_choice_X10_part rfl rfl rfl (by decide +kernel) ⟨(Nat.le_of_ble_eq_true rfl), (Nat.le_of_ble_eq_true rfl)⟩) ⟨(kb_pre hK hG hP (kb_D hD rfl) hS hA [0, 2, 3, 4, 5, 6, 7] rfl (by decide)).1, (va_recv hK hP (ci := 8) (q0 := 0) rfl rfl), (kb_pre hK hG hP (kb_D hD rfl) hS hA [0, 2, 3, 4, 5, 6, 7] rfl (by decide)).2⟩ rfl rfl hl.1 rfl (lv_room (Nat.le_of_ble_eq_true rfl)) dX10_choice_202 ⟨Nat.zero_le _, Nat.zero_le _⟩) hP (kb_D hD rfl) hS hA [0, 2, 3, 4, 5, 6, 7] rfl [(true, 0), (false, 1), (true, 1), (true, 2), (true, 3), (true, 4), (true, 5), (true, 6)] (w2 := [oX10 a_th (.int (0 : Int32)) q_text (.int v_textSize) (.int v_place) (.ref a_question) (.int v_questionSize) (.int v_facts) (.int v_isSo) (.int v_common) (.int v_readFacts) (.int v_readSo) (.int v_readCommon) (.int v_readDay) (.ref a_page) (.long v_seed) q_book q_bookSeed (.int v_acts) q_kept q_isKept (.int v_told) q_toldSimple q_toldDay q_toldYes (.ref a_yesOf) (.ref a_noOf) q_factOf (.ref a_stack) (.ref a_one) (.ref a_two) q_three, aI cI a_page 12 v_page, aI cI a_one 7 w41, aI cI a_question 16 v_question, aI cZ a_stack 17 w56, aI cI a_yesOf 931 v_yesOf, aI cI a_noOf 931 v_noOf, aI cI a_two 7 w57]) rfl (by decide) (fun H locs hP hS => ?_)
                    refine lv_iconst (v := (0 : Int32)) hx hb dX10_choice_205 (by decide) ?_
                    refine lv_istore (lv' := [(11, .int (0 : Int32)), (10, .int x52), (9, .int x51), (0, .ref a_th), (1, .int p_1), (2, .long p_2), (4, .int p_3), (5, .int x21), (6, .int x22), (7, .int x23), (8, .int x40)]) hx hb dX10_choice_206 hl (by decide) rfl (fun ls hl => ?_)
                    have lp208 : ∀ (n208 : Nat) (x59 : Int32) (w60 : (Nat → Int32)) (k208 : (Nat → Int32) → Option (Int32 × Int32 × (Nat → Int32) × (Nat → Int32) × (Nat → Int32))) (H : Heap) (locs : List Loc) (ls : Array Slot), L_X10_choice_208 w57 n208 x59 w60 k208 = some o → (∀ (w61 : (Nat → Int32)) (H : Heap) (locs : List Loc) (ls : Array Slot), k208 w61 = some o → va_P (dC, dI) vwCl [oX10 a_th (.int (0 : Int32)) q_text (.int v_textSize) (.int v_place) (.ref a_question) (.int v_questionSize) (.int v_facts) (.int v_isSo) (.int v_common) (.int v_readFacts) (.int v_readSo) (.int v_readCommon) (.int v_readDay) (.ref a_page) (.long v_seed) q_book q_bookSeed (.int v_acts) q_kept q_isKept (.int v_told) q_toldSimple q_toldDay q_toldYes (.ref a_yesOf) (.ref a_noOf) q_factOf (.ref a_stack) (.ref a_one) (.ref a_two) q_three, aI cI a_page 12 v_page, aI cI a_one 7 w61, aI cI a_question 16 v_question, aI cZ a_stack 17 w56, aI cI a_yesOf 931 v_yesOf, aI cI a_noOf 931 v_noOf, aI cI a_two 7 w57] H → va_S A s.heap H locs → lv_has ls 12 [(0, .ref a_th), (1, .int p_1), (2, .long p_2), (4, .int p_3), (5, .int x21), (6, .int x22), (7, .int x23), (8, .int x40)] → W p l e (headSpec wsX10_choice { frames := 5, cells := 0, slots := 0, locals := 132 }).room s m [.ref a_th, .int p_1, .long p_2, .int p_3].toArray below meth c H locs 0 0 Q (F0 m 235 ls [])) → va_P (dC, dI) vwCl [oX10 a_th (.int (0 : Int32)) q_text (.int v_textSize) (.int v_place) (.ref a_question) (.int v_questionSize) (.int v_facts) (.int v_isSo) (.int v_common) (.int v_readFacts) (.int v_readSo) (.int v_readCommon) (.int v_readDay) (.ref a_page) (.long v_seed) q_book q_bookSeed (.int v_acts) q_kept q_isKept (.int v_told) q_toldSimple q_toldDay q_toldYes (.ref a_yesOf) (.ref a_noOf) q_factOf (.ref a_stack) (.ref a_one) (.ref a_two) q_three, aI cI a_page 12 v_page, aI cI a_one 7 w60, aI cI a_question 16 v_question, aI cZ a_stack 17 w56, aI cI a_yesOf 931 v_yesOf, aI cI a_noOf 931 v_noOf, aI cI a_two 7 w57] H → va_S A s.heap H locs → lv_has ls 12 [(0, .ref a_th), (1, .int p_1), (2, .long p_2), (4, .int p_3), (5, .int x21), (6, .int x22), (7, .int x23), (8, .int x40), (11, .int x59)] → W p l e (headSpec wsX10_choice { frames := 5, cells := 0, slots := 0, locals := 132 }).room s m [.ref a_th, .int p_1, .long p_2, .int p_3].toArray below meth c H locs 0 0 Q (F0 m 208 ls []) := by
                      intro n208
                      induction n208 with
                      | zero =>
                        intro x59 w60 k208 H locs ls hm
                        cases (show (none : Option (Int32 × Int32 × (Nat → Int32) × (Nat → Int32) × (Nat → Int32))) = some o from hm)
                      | succ n208 ih208 =>
                        intro x59 w60 k208 H locs ls hm hk208 hP hS hl
                        rw [L_X10_choice_208.eq_2] at hm
                        refine lv_iload hx hb dX10_choice_208 (lv_at hl 8 rfl) ?_
                        refine lv_bipush (v := (7 : Int32)) hx hb dX10_choice_210 (by decide) ?_
                        refine lv_icmp_ge (tgt := 235) hx hb dX10_choice_212 (by decide) (fun c62 => ?_) (fun c62 => ?_)
                        · replace hm := ite_t c62 hm
                          exact hk208 w60 _ _ _ hm hP hS (lv_sub hl [0, 1, 2, 3, 4, 5, 6, 7] rfl)
                        · replace hm := ite_f c62 hm
                          refine lv_aload_n hx hb dX10_choice_215 rfl (lv_at hl 0 rfl) ?_
                          refine va_get (D := (dC, dI)) (ci := 8) (v := .ref a_one) (C := RX10) (T := TX10) (N := 31) hx hb hts iX10 hown hK hP 0 rfl rfl 28 (by decide) f54 (fun _ h9 => h9) rfl dX10_choice_216 ?_
                          refine lv_iload hx hb dX10_choice_219 (lv_at hl 8 rfl) ?_
                          refine lv_aload_n hx hb dX10_choice_221 rfl (lv_at hl 0 rfl) ?_
                          refine va_get (D := (dC, dI)) (ci := 8) (v := .ref a_two) (C := RX10) (T := TX10) (N := 31) hx hb hts iX10 hown hK hP 0 rfl rfl 29 (by decide) f57 (fun _ h9 => h9) rfl dX10_choice_222 ?_
                          refine lv_iload hx hb dX10_choice_225 (lv_at hl 8 rfl) ?_
                          obtain ⟨h63, hm⟩ := gd_s hm
                          refine va_iald hx hb hK hP 7 0 rfl rfl (inB_s h63) dX10_choice_227 ?_
                          obtain ⟨h64, hm⟩ := gd_s hm
                          refine va_iast hx hb hK hP (kb_D hD rfl) hS 2 0 rfl rfl (inB_s h64) dX10_choice_228 (fun H locs hP _ hS => ?_)
                          have hP : va_P (dC, dI) vwCl [oX10 a_th (.int (0 : Int32)) q_text (.int v_textSize) (.int v_place) (.ref a_question) (.int v_questionSize) (.int v_facts) (.int v_isSo) (.int v_common) (.int v_readFacts) (.int v_readSo) (.int v_readCommon) (.int v_readDay) (.ref a_page) (.long v_seed) q_book q_bookSeed (.int v_acts) q_kept q_isKept (.int v_told) q_toldSimple q_toldDay q_toldYes (.ref a_yesOf) (.ref a_noOf) q_factOf (.ref a_stack) (.ref a_one) (.ref a_two) q_three, aI cI a_page 12 v_page, aI cI a_one 7 (upd w60 (Int32.toNatClampNeg x59) (w57 (Int32.toNatClampNeg x59))), aI cI a_question 16 v_question, aI cZ a_stack 17 w56, aI cI a_yesOf 931 v_yesOf, aI cI a_noOf 931 v_noOf, aI cI a_two 7 w57] H := hP
                          obtain ⟨x65, ex65⟩ : ∃ y : Int32, y = x59 + (1 : Int32) := ⟨_, rfl⟩
                          replace hm := nm_t ex65 hm
                          refine lv_iinc (v := x65) (lv' := [(11, .int x65), (0, .ref a_th), (1, .int p_1), (2, .long p_2), (4, .int p_3), (5, .int x21), (6, .int x22), (7, .int x23), (8, .int x40)]) hx hb dX10_choice_229 hl (k := 8) rfl (by rw [ex65]; rfl) (by decide) rfl (fun ls hl => ?_)
                          refine lv_goto (tgt := 208) hx hb dX10_choice_232 (by decide) ?_
                          exact ih208 x65 (upd w60 (Int32.toNatClampNeg x59) (w57 (Int32.toNatClampNeg x59))) k208 _ _ _ hm hk208 hP hS (lv_sub hl [1, 2, 3, 4, 5, 6, 7, 8, 0] rfl)
                    refine lp208 1024 (0 : Int32) w41 _ _ _ _ hm (fun w61 H locs ls hm hP hS hl => ?_) hP hS (lv_sub hl [3, 4, 5, 6, 7, 8, 9, 10, 0] rfl)
                    obtain ⟨x66, ex66⟩ : ∃ y : Int32, y = x40 + (1 : Int32) := ⟨_, rfl⟩
                    replace hm := nm_t ex66 hm
                    refine lv_iinc (v := x66) (lv' := [(8, .int x66), (0, .ref a_th), (1, .int p_1), (2, .long p_2), (4, .int p_3), (5, .int x21), (6, .int x22), (7, .int x23)]) hx hb dX10_choice_235 hl (k := 7) rfl (by rw [ex66]; rfl) (by decide) rfl (fun ls hl => ?_)
                    refine lv_goto (tgt := 137) hx hb dX10_choice_238 (by decide) ?_
                    exact ih137 x66 w61 w56 w57 k137 _ _ _ hm hk137 hP hS (lv_sub hl [1, 2, 3, 4, 5, 6, 7, 0] rfl)
              refine lp137 1024 (0 : Int32) w35 w25 w26 _ _ _ _ hm (fun w44 w45 w46 H locs ls hm hP hS hl => ?_) hP hS (lv_sub hl [1, 2, 3, 4, 5, 6, 7, 0] rfl)
              refine lv_aload_n hx hb dX10_choice_241 rfl (lv_at hl 0 rfl) ?_
              refine va_get (D := (dC, dI)) (ci := 8) (v := .ref a_one) (C := RX10) (T := TX10) (N := 31) hx hb hts iX10 hown hK hP 0 rfl rfl 28 (by decide) f54 (fun _ h9 => h9) rfl dX10_choice_242 ?_
              obtain ⟨r67, ho68, hm⟩ := bd1_s hm
              refine kb_calli (Rv := r67) (va_runS (As := [.ref a_one]) (rest := []) ⟨hx, hb, hml, hown, hts⟩ (c_X10_knownMany l dC dI cI cJ cZ cQ t H.size a_one 7 w44 (r67) ho68) (va_cwS 1 hts gX10_choice_X10_knownMany rfl rfl rfl (by decide +kernel) ⟨(Nat.le_of_ble_eq_true rfl), (Nat.le_of_ble_eq_true rfl)⟩) (kb_pre hK hG hP (kb_D hD rfl) hS hA [2] rfl (by decide)) rfl rfl hl.1 rfl (lv_room (Nat.le_of_ble_eq_true rfl)) dX10_choice_245 ⟨Nat.zero_le _, Nat.zero_le _⟩) hP (kb_D hD rfl) hS hA [2] rfl [(false, 0), (false, 1), (true, 0), (false, 3), (false, 4), (false, 5), (false, 6), (false, 7)] (w2 := [oX10 a_th (.int (0 : Int32)) q_text (.int v_textSize) (.int v_place) (.ref a_question) (.int v_questionSize) (.int v_facts) (.int v_isSo) (.int v_common) (.int v_readFacts) (.int v_readSo) (.int v_readCommon) (.int v_readDay) (.ref a_page) (.long v_seed) q_book q_bookSeed (.int v_acts) q_kept q_isKept (.int v_told) q_toldSimple q_toldDay q_toldYes (.ref a_yesOf) (.ref a_noOf) q_factOf (.ref a_stack) (.ref a_one) (.ref a_two) q_three, aI cI a_page 12 v_page, aI cI a_one 7 w44, aI cI a_question 16 v_question, aI cZ a_stack 17 w45, aI cI a_yesOf 931 v_yesOf, aI cI a_noOf 931 v_noOf, aI cI a_two 7 w46]) rfl (by decide) (fun H locs hP hS => ?_)
              refine lv_istore (lv' := [(8, .int r67), (0, .ref a_th), (1, .int p_1), (2, .long p_2), (4, .int p_3), (5, .int x21), (6, .int x22), (7, .int x23)]) hx hb dX10_choice_248 hl (by decide) rfl (fun ls hl => ?_)
              refine lv_iload hx hb dX10_choice_250 (lv_at hl 0 rfl) ?_
              refine lv_iload hx hb dX10_choice_252 (lv_at hl 6 rfl) ?_
              obtain ⟨k265, ek265, hm⟩ := nm_s hm
              have J265 : ∀ (x69 : Int32) (x70 : Int32) (H : Heap) (locs : List Loc) (ls : Array Slot), k265 x69 x70 = some o → va_P (dC, dI) vwCl [oX10 a_th (.int (0 : Int32)) q_text (.int v_textSize) (.int v_place) (.ref a_question) (.int v_questionSize) (.int v_facts) (.int v_isSo) (.int v_common) (.int v_readFacts) (.int v_readSo) (.int v_readCommon) (.int v_readDay) (.ref a_page) (.long v_seed) q_book q_bookSeed (.int v_acts) q_kept q_isKept (.int v_told) q_toldSimple q_toldDay q_toldYes (.ref a_yesOf) (.ref a_noOf) q_factOf (.ref a_stack) (.ref a_one) (.ref a_two) q_three, aI cI a_page 12 v_page, aI cI a_one 7 w44, aI cI a_question 16 v_question, aI cZ a_stack 17 w45, aI cI a_yesOf 931 v_yesOf, aI cI a_noOf 931 v_noOf, aI cI a_two 7 w46] H → va_S A s.heap H locs → lv_has ls 12 [(0, .ref a_th), (1, .int p_1), (2, .long p_2), (4, .int p_3), (5, .int x69), (6, .int x70), (7, .int x23)] → W p l e (headSpec wsX10_choice { frames := 5, cells := 0, slots := 0, locals := 132 }).room s m [.ref a_th, .int p_1, .long p_2, .int p_3].toArray below meth c H locs 0 0 Q (F0 m 265 ls []) := by
                intro x69 x70 H locs ls hm hP hS hl
                rw [ek265] at hm
                obtain ⟨x71, ex71⟩ : ∃ y : Int32, y = x23 + (1 : Int32) := ⟨_, rfl⟩
                replace hm := nm_t ex71 hm
                refine lv_iinc (v := x71) (lv' := [(7, .int x71), (0, .ref a_th), (1, .int p_1), (2, .long p_2), (4, .int p_3), (5, .int x69), (6, .int x70)]) hx hb dX10_choice_265 hl (k := 6) rfl (by rw [ex71]; rfl) (by decide) rfl (fun ls hl => ?_)
                refine lv_goto (tgt := 97) hx hb dX10_choice_268 (by decide) ?_
                exact ih97 x69 x70 x71 w44 w45 w46 k97 _ _ _ hm hk97 hP hS (lv_sub hl [1, 2, 3, 4, 5, 6, 0] rfl)
              refine lv_icmp_le (tgt := 265) hx hb dX10_choice_254 (by decide) (fun c72 => ?_) (fun c72 => ?_)
              · replace hm := ite_t c72 hm
                exact J265 x21 x22 _ _ _ hm hP hS (lv_sub hl [1, 2, 3, 4, 5, 6, 7] rfl)
              · replace hm := ite_f c72 hm
                refine lv_iload hx hb dX10_choice_257 (lv_at hl 0 rfl) ?_
                refine lv_istore (lv' := [(6, .int r67), (8, .int r67), (0, .ref a_th), (1, .int p_1), (2, .long p_2), (4, .int p_3), (5, .int x21), (7, .int x23)]) hx hb dX10_choice_259 hl (by decide) rfl (fun ls hl => ?_)
                refine lv_iload hx hb dX10_choice_261 (lv_at hl 7 rfl) ?_
                refine lv_istore (lv' := [(5, .int x23), (6, .int r67), (8, .int r67), (0, .ref a_th), (1, .int p_1), (2, .long p_2), (4, .int p_3), (7, .int x23)]) hx hb dX10_choice_263 hl (by decide) rfl (fun ls hl => ?_)
                exact J265 x23 r67 _ _ _ hm hP hS (lv_sub hl [3, 4, 5, 6, 0, 1, 7] rfl)
        refine lp97 1024 (-9 : Int32) (-9 : Int32) (0 : Int32) v_one v_stack v_two _ _ _ _ hm (fun x27 x28 w29 w30 w31 H locs ls hm hP hS hl => ?_) hP hS (lv_sub hl [3, 4, 5, 6, 2, 1, 0] rfl)
        refine lv_iload hx hb dX10_choice_271 (lv_at hl 0 rfl) ?_
        refine lv_if_ne (tgt := 281) hx hb dX10_choice_273 (by decide) (fun c73 => ?_) (fun c73 => ?_)
        · replace hm := ite_f c73 hm
          refine lv_iload hx hb dX10_choice_281 (lv_at hl 2 rfl) ?_
          obtain rfl := Option.some.inj hm
          subst hQ
          exact W.iret hx hb hr (fun t ht hW => ⟨⟨_, (), rfl, rfl, kb_h hP ht⟩, hS.F ht⟩) hS.2.2 dX10_choice_283
        · replace hm := ite_t c73 hm
          refine lv_iload hx hb dX10_choice_276 (lv_at hl 1 rfl) ?_
          refine lv_goto (tgt := 283) hx hb dX10_choice_278 (by decide) ?_
          obtain rfl := Option.some.inj hm
          subst hQ
          exact W.iret hx hb hr (fun t ht hW => ⟨⟨_, (), rfl, rfl, kb_h hP ht⟩, hS.F ht⟩) hS.2.2 dX10_choice_283
      · replace hm := ite_t c11 hm
        refine lv_bipush (v := (-2 : Int32)) hx hb dX10_choice_42 (by decide) ?_
        obtain rfl := Option.some.inj hm
        subst hQ
        exact W.iret hx hb hr (fun t ht hW => ⟨⟨_, (), rfl, rfl, kb_h hP ht⟩, hS.F ht⟩) hS.2.2 dX10_choice_44
set_option maxHeartbeats 4000000 in
set_option maxRecDepth 100000 in
theorem c_X10_both (l : Launch) (dC : Nat → ClassId) (dI : Nat → Nat → Nat) (cI cJ cZ cQ : ClassId) (t sz : Nat) (a_th : Nat) (a_question : Nat) (a_page : Nat) (a_stack : Nat) (q_text : Value) (q_book : Value) (q_bookSeed : Value) (q_kept : Value) (q_isKept : Value) (q_toldSimple : Value) (q_toldDay : Value) (q_toldYes : Value) (q_yesOf : Value) (q_noOf : Value) (q_factOf : Value) (q_one : Value) (q_two : Value) (q_three : Value) (v_thrown : Int32) (v_textSize : Int32) (v_place : Int32) (v_questionSize : Int32) (v_facts : Int32) (v_isSo : Int32) (v_common : Int32) (v_readFacts : Int32) (v_readSo : Int32) (v_readCommon : Int32) (v_readDay : Int32) (v_seed : Int64) (v_acts : Int32) (v_told : Int32) (v_question : (Nat → Int32)) (v_page : (Nat → Int32)) (v_stack : (Nat → Int32)) (p_1 : Int32) (o : Int32 × Int32 × (Nat → Int32)) (hm : m_X10_both p_1 v_thrown v_questionSize v_facts v_isSo v_question v_page v_stack = some o) : Met l yX10_both wsX10_both { frames := 4, cells := 0, slots := 0, locals := 104 } (va_Pc [.ref a_th, .int p_1] (cP (dC, dI) (kT cI cJ cZ cQ) t sz [oX10 a_th (.int v_thrown) q_text (.int v_textSize) (.int v_place) (.ref a_question) (.int v_questionSize) (.int v_facts) (.int v_isSo) (.int v_common) (.int v_readFacts) (.int v_readSo) (.int v_readCommon) (.int v_readDay) (.ref a_page) (.long v_seed) q_book q_bookSeed (.int v_acts) q_kept q_isKept (.int v_told) q_toldSimple q_toldDay q_toldYes q_yesOf q_noOf q_factOf (.ref a_stack) q_one q_two q_three, aI cI a_question 16 v_question, aI cI a_page 12 v_page, aI cZ a_stack 17 v_stack])) (cQi (dC, dI) (va_A [oX10 a_th (.int v_thrown) q_text (.int v_textSize) (.int v_place) (.ref a_question) (.int v_questionSize) (.int v_facts) (.int v_isSo) (.int v_common) (.int v_readFacts) (.int v_readSo) (.int v_readCommon) (.int v_readDay) (.ref a_page) (.long v_seed) q_book q_bookSeed (.int v_acts) q_kept q_isKept (.int v_told) q_toldSimple q_toldDay q_toldYes q_yesOf q_noOf q_factOf (.ref a_stack) q_one q_two q_three, aI cI a_question 16 v_question, aI cI a_page 12 v_page, aI cZ a_stack 17 v_stack] sz) o.1 [oX10 a_th (.int (o.2.1)) q_text (.int v_textSize) (.int v_place) (.ref a_question) (.int v_questionSize) (.int v_facts) (.int v_isSo) (.int v_common) (.int v_readFacts) (.int v_readSo) (.int v_readCommon) (.int v_readDay) (.ref a_page) (.long v_seed) q_book q_bookSeed (.int v_acts) q_kept q_isKept (.int v_told) q_toldSimple q_toldDay q_toldYes q_yesOf q_noOf q_factOf (.ref a_stack) q_one q_two q_three, aI cI a_question 16 v_question, aI cI a_page 12 v_page, aI cZ a_stack 17 (o.2.2)]) 0 0 (va_A [oX10 a_th (.int v_thrown) q_text (.int v_textSize) (.int v_place) (.ref a_question) (.int v_questionSize) (.int v_facts) (.int v_isSo) (.int v_common) (.int v_readFacts) (.int v_readSo) (.int v_readCommon) (.int v_readDay) (.ref a_page) (.long v_seed) q_book q_bookSeed (.int v_acts) q_kept q_isKept (.int v_told) q_toldSimple q_toldDay q_toldYes q_yesOf q_noOf q_factOf (.ref a_stack) q_one q_two q_three, aI cI a_question 16 v_question, aI cI a_page 12 v_page, aI cZ a_stack 17 v_stack] sz) := by
  refine Met.ofW (cc := cX10_both) (maxL := 10) (ret := (some .int)) (by decide) rfl ?_
  intro p e s m args below meth c s₁ B hml hv
  obtain ⟨rfl, hsz, hP, hK, hD0, hG⟩ := hv
  have hx := B.exec
  have hb := B.bytes
  have hr := B.returns
  have hts := atoms_spec (ws := wsX10_both) B.pre
  have hown : s.vm.findClass RX10 = some m.cls := findClass_of_methodNamed B.named
  have hlocks := B.notSynchronized
  subst hsz
  have hD := hD0.self (sz := s.heap.size)
  generalize hAe : va_A [oX10 a_th (.int v_thrown) q_text (.int v_textSize) (.int v_place) (.ref a_question) (.int v_questionSize) (.int v_facts) (.int v_isSo) (.int v_common) (.int v_readFacts) (.int v_readSo) (.int v_readCommon) (.int v_readDay) (.ref a_page) (.long v_seed) q_book q_bookSeed (.int v_acts) q_kept q_isKept (.int v_told) q_toldSimple q_toldDay q_toldYes q_yesOf q_noOf q_factOf (.ref a_stack) q_one q_two q_three, aI cI a_question 16 v_question, aI cI a_page 12 v_page, aI cZ a_stack 17 v_stack] s.heap.size = A at hD hG ⊢
  have hA : ∀ q : Nat, s.heap.size ≤ q → A q := fun q h => by rw [← hAe]; exact Or.inr h
  have hS : va_S A s.heap s.heap [] := va_S.rf
  have hl := lv_entry ([.ref a_th, .int p_1]) (n := 10) (Nat.le_of_ble_eq_true rfl)
  rw [lg_entry_eq]
  generalize (lg_sl ([.ref a_th, .int p_1]) ++ List.replicate (10 - (lg_sl ([.ref a_th, .int p_1])).length) Slot.unset).toArray = ls at hl ⊢
  have hl : lv_has ls 10 [(0, .ref a_th), (1, .int p_1)] := hl
  have iX10 : ∀ w ∈ wsX100, w ∈ wsX10_both := fun _ h => List.mem_cons_of_mem _ (List.mem_append_right _ h)
  have f66 := hts (.fieldLink RX10 66 "TrueOnceWeekModel" "thrown" "I") (by decide +kernel)
  have f16 := hts (.fieldLink RX10 16 "TrueOnceWeekModel" "page" "[I") (by decide +kernel)
  have f105 := hts (.fieldLink RX10 105 "TrueOnceWeekModel" "isSo" "I") (by decide +kernel)
  have f102 := hts (.fieldLink RX10 102 "TrueOnceWeekModel" "facts" "I") (by decide +kernel)
  refine kb_gen (fun Q hQ => ?_)
  unfold m_X10_both at hm
  refine lv_aload_n hx hb dX10_both_0 rfl (lv_at hl 0 rfl) ?_
  refine lv_iconst (v := (0 : Int32)) hx hb dX10_both_1 (by decide) ?_
  refine va_put (D := (dC, dI)) (ci := 8) (v := .int (0 : Int32)) (ty := .int) (C := RX10) (T := TX10) (N := 31) hx hb hts iX10 tyX10 tyX10_ok nmX10 hown hK hP (kb_D hD rfl) hS 0 rfl rfl 0 (by decide) f66 (fun _ h9 => h9) rfl (by decide +kernel) rfl rfl (Nat.le_of_ble_eq_true rfl) dX10_both_2 (fun H locs hP _ hS => ?_)
  have hP : va_P (dC, dI) vwCl [oX10 a_th (.int (0 : Int32)) q_text (.int v_textSize) (.int v_place) (.ref a_question) (.int v_questionSize) (.int v_facts) (.int v_isSo) (.int v_common) (.int v_readFacts) (.int v_readSo) (.int v_readCommon) (.int v_readDay) (.ref a_page) (.long v_seed) q_book q_bookSeed (.int v_acts) q_kept q_isKept (.int v_told) q_toldSimple q_toldDay q_toldYes q_yesOf q_noOf q_factOf (.ref a_stack) q_one q_two q_three, aI cI a_question 16 v_question, aI cI a_page 12 v_page, aI cZ a_stack 17 v_stack] H := hP
  refine lv_iload_n hx hb dX10_both_5 rfl (lv_at hl 1 rfl) ?_
  refine lv_i2l (v := (Int32.toInt64 p_1)) hx hb dX10_both_6 rfl ?_
  refine lv_lconst (v := (0 : Int64)) hx hb dX10_both_7 (by decide) ?_
  refine lv_lconst (v := (1 : Int64)) hx hb dX10_both_8 (by decide) ?_
  obtain ⟨r1, ho2, hm⟩ := bd1_s hm
  refine kb_calli (Rv := r1) (va_runS (As := [.long (Int32.toInt64 p_1), .long (0 : Int64), .long (1 : Int64)]) (rest := []) ⟨hx, hb, hml, hown, hts⟩ (c_X10_in l dC dI cI cJ cZ cQ t H.size (Int32.toInt64 p_1) (0 : Int64) (1 : Int64) (r1) ho2) (va_cwS 3 hts gX10_both_X10_in rfl rfl rfl (by decide +kernel) ⟨(Nat.le_of_ble_eq_true rfl), (Nat.le_of_ble_eq_true rfl)⟩) (kb_pre hK hG hP (kb_D hD rfl) hS hA [] rfl (by decide)) rfl rfl hl.1 rfl (lv_room (Nat.le_of_ble_eq_true rfl)) dX10_both_9 ⟨Nat.zero_le _, Nat.zero_le _⟩) hP (kb_D hD rfl) hS hA [] rfl [(false, 0), (false, 1), (false, 2), (false, 3)] (w2 := [oX10 a_th (.int (0 : Int32)) q_text (.int v_textSize) (.int v_place) (.ref a_question) (.int v_questionSize) (.int v_facts) (.int v_isSo) (.int v_common) (.int v_readFacts) (.int v_readSo) (.int v_readCommon) (.int v_readDay) (.ref a_page) (.long v_seed) q_book q_bookSeed (.int v_acts) q_kept q_isKept (.int v_told) q_toldSimple q_toldDay q_toldYes q_yesOf q_noOf q_factOf (.ref a_stack) q_one q_two q_three, aI cI a_question 16 v_question, aI cI a_page 12 v_page, aI cZ a_stack 17 v_stack]) rfl (by decide) (fun H locs hP hS => ?_)
  refine lv_if_ne (tgt := 18) hx hb dX10_both_12 (by decide) (fun c3 => ?_) (fun c3 => ?_)
  · replace hm := ite_f c3 hm
    refine lv_aload_n hx hb dX10_both_18 rfl (lv_at hl 0 rfl) ?_
    obtain ⟨r4, ho5, hm⟩ := bd1_s hm
    refine kb_calli (Rv := r4) (va_runV (As := []) (rest := []) ⟨hx, hb, hml, hown, hts⟩ (c_X10_slipOf l dC dI cI cJ cZ cQ t H.size a_th a_question q_text (.ref a_page) q_book q_bookSeed q_kept q_isKept q_toldSimple q_toldDay q_toldYes q_yesOf q_noOf q_factOf (.ref a_stack) q_one q_two q_three (0 : Int32) v_textSize v_place v_questionSize v_facts v_isSo v_common v_readFacts v_readSo v_readCommon v_readDay v_seed v_acts v_told v_question (r4) ho5) (cwV 0 hts gX10_both_X10_slipOf rfl rfl rfl (by decide +kernel) ⟨(Nat.le_of_ble_eq_true rfl), (Nat.le_of_ble_eq_true rfl)⟩) ⟨(kb_pre hK hG hP (kb_D hD rfl) hS hA [0, 1] rfl (by decide)).1, (va_recv hK hP (ci := 8) (q0 := 0) rfl rfl), (kb_pre hK hG hP (kb_D hD rfl) hS hA [0, 1] rfl (by decide)).2⟩ rfl rfl hl.1 rfl (lv_room (Nat.le_of_ble_eq_true rfl)) dX10_both_19 ⟨Nat.zero_le _, Nat.zero_le _⟩) hP (kb_D hD rfl) hS hA [0, 1] rfl [(true, 0), (true, 1), (false, 2), (false, 3)] (w2 := [oX10 a_th (.int (0 : Int32)) q_text (.int v_textSize) (.int v_place) (.ref a_question) (.int v_questionSize) (.int v_facts) (.int v_isSo) (.int v_common) (.int v_readFacts) (.int v_readSo) (.int v_readCommon) (.int v_readDay) (.ref a_page) (.long v_seed) q_book q_bookSeed (.int v_acts) q_kept q_isKept (.int v_told) q_toldSimple q_toldDay q_toldYes q_yesOf q_noOf q_factOf (.ref a_stack) q_one q_two q_three, aI cI a_question 16 v_question, aI cI a_page 12 v_page, aI cZ a_stack 17 v_stack]) rfl (by decide) (fun H locs hP hS => ?_)
    refine lv_bipush (v := (-9 : Int32)) hx hb dX10_both_22 (by decide) ?_
    refine lv_icmp_eq (tgt := 30) hx hb dX10_both_24 (by decide) (fun c6 => ?_) (fun c6 => ?_)
    · replace hm := ite_t c6 hm
      refine lv_aload_n hx hb dX10_both_30 rfl (lv_at hl 0 rfl) ?_
      refine va_get (D := (dC, dI)) (ci := 8) (v := .ref a_page) (C := RX10) (T := TX10) (N := 31) hx hb hts iX10 hown hK hP 0 rfl rfl 13 (by decide) f16 (fun _ h9 => h9) rfl dX10_both_31 ?_
      refine lv_bipush (v := (7 : Int32)) hx hb dX10_both_34 (by decide) ?_
      refine va_iald hx hb hK hP 2 0 rfl rfl (inB_s (by decide)) dX10_both_36 ?_
      refine lv_topi (fun x7 ex7 => ?_)
      replace hm := nm_t ex7 hm
      refine lv_istore_n (lv' := [(2, .int x7), (0, .ref a_th), (1, .int p_1)]) hx hb dX10_both_37 rfl hl (by decide) rfl (fun ls hl => ?_)
      refine lv_aload_n hx hb dX10_both_38 rfl (lv_at hl 1 rfl) ?_
      refine lv_bipush (v := (-9 : Int32)) hx hb dX10_both_39 (by decide) ?_
      refine lv_iload_n hx hb dX10_both_41 rfl (lv_at hl 0 rfl) ?_
      refine lv_aload_n hx hb dX10_both_42 rfl (lv_at hl 1 rfl) ?_
      refine va_get (D := (dC, dI)) (ci := 8) (v := .ref a_page) (C := RX10) (T := TX10) (N := 31) hx hb hts iX10 hown hK hP 0 rfl rfl 13 (by decide) f16 (fun _ h9 => h9) rfl dX10_both_43 ?_
      refine lv_bipush (v := (8 : Int32)) hx hb dX10_both_46 (by decide) ?_
      refine va_iald hx hb hK hP 2 0 rfl rfl (inB_s (by decide)) dX10_both_48 ?_
      refine lv_aload_n hx hb dX10_both_49 rfl (lv_at hl 1 rfl) ?_
      refine va_get (D := (dC, dI)) (ci := 8) (v := .ref a_page) (C := RX10) (T := TX10) (N := 31) hx hb hts iX10 hown hK hP 0 rfl rfl 13 (by decide) f16 (fun _ h9 => h9) rfl dX10_both_50 ?_
      refine lv_bipush (v := (8 : Int32)) hx hb dX10_both_53 (by decide) ?_
      refine va_iald hx hb hK hP 2 0 rfl rfl (inB_s (by decide)) dX10_both_55 ?_
      refine lv_aload_n hx hb dX10_both_56 rfl (lv_at hl 1 rfl) ?_
      refine va_get (D := (dC, dI)) (ci := 8) (v := .int v_isSo) (C := RX10) (T := TX10) (N := 31) hx hb hts iX10 hown hK hP 0 rfl rfl 7 (by decide) f105 (fun _ h9 => h9) rfl dX10_both_57 ?_
      obtain ⟨r8, w9, ho10, hm⟩ := bd2_s hm
      refine kb_calli (Rv := r8) (va_runV (As := [.int (-9 : Int32), .int x7, .int (v_page (Int32.toNatClampNeg (8 : Int32))), .int (v_page (Int32.toNatClampNeg (8 : Int32))), .int v_isSo]) (rest := []) ⟨hx, hb, hml, hown, hts⟩ (c_X10_answerOf l dC dI cI cJ cZ cQ t H.size a_th a_question a_stack q_text (.ref a_page) q_book q_bookSeed q_kept q_isKept q_toldSimple q_toldDay q_toldYes q_yesOf q_noOf q_factOf q_one q_two q_three (0 : Int32) v_textSize v_place v_questionSize v_facts v_isSo v_common v_readFacts v_readSo v_readCommon v_readDay v_seed v_acts v_told v_question v_stack (-9 : Int32) x7 (v_page (Int32.toNatClampNeg (8 : Int32))) (v_page (Int32.toNatClampNeg (8 : Int32))) v_isSo (r8, w9) ho10) (cwV 5 hts gX10_both_X10_answerOf rfl rfl rfl (by decide +kernel) ⟨(Nat.le_of_ble_eq_true rfl), (Nat.le_of_ble_eq_true rfl)⟩) ⟨(kb_pre hK hG hP (kb_D hD rfl) hS hA [0, 1, 3] rfl (by decide)).1, (va_recv hK hP (ci := 8) (q0 := 0) rfl rfl), (kb_pre hK hG hP (kb_D hD rfl) hS hA [0, 1, 3] rfl (by decide)).2⟩ rfl rfl hl.1 rfl (lv_room (Nat.le_of_ble_eq_true rfl)) dX10_both_60 ⟨Nat.zero_le _, Nat.zero_le _⟩) hP (kb_D hD rfl) hS hA [0, 1, 3] rfl [(true, 0), (true, 1), (false, 2), (true, 2)] (w2 := [oX10 a_th (.int (0 : Int32)) q_text (.int v_textSize) (.int v_place) (.ref a_question) (.int v_questionSize) (.int v_facts) (.int v_isSo) (.int v_common) (.int v_readFacts) (.int v_readSo) (.int v_readCommon) (.int v_readDay) (.ref a_page) (.long v_seed) q_book q_bookSeed (.int v_acts) q_kept q_isKept (.int v_told) q_toldSimple q_toldDay q_toldYes q_yesOf q_noOf q_factOf (.ref a_stack) q_one q_two q_three, aI cI a_question 16 v_question, aI cI a_page 12 v_page, aI cZ a_stack 17 w9]) rfl (by decide) (fun H locs hP hS => ?_)
      refine lv_istore_n (lv' := [(3, .int r8), (2, .int x7), (0, .ref a_th), (1, .int p_1)]) hx hb dX10_both_63 rfl hl (by decide) rfl (fun ls hl => ?_)
      refine lv_aload_n hx hb dX10_both_64 rfl (lv_at hl 2 rfl) ?_
      refine lv_bipush (v := (-9 : Int32)) hx hb dX10_both_65 (by decide) ?_
      refine lv_iload_n hx hb dX10_both_67 rfl (lv_at hl 1 rfl) ?_
      refine lv_aload_n hx hb dX10_both_68 rfl (lv_at hl 2 rfl) ?_
      refine va_get (D := (dC, dI)) (ci := 8) (v := .ref a_page) (C := RX10) (T := TX10) (N := 31) hx hb hts iX10 hown hK hP 0 rfl rfl 13 (by decide) f16 (fun _ h9 => h9) rfl dX10_both_69 ?_
      refine lv_bipush (v := (8 : Int32)) hx hb dX10_both_72 (by decide) ?_
      refine va_iald hx hb hK hP 2 0 rfl rfl (inB_s (by decide)) dX10_both_74 ?_
      refine lv_aload_n hx hb dX10_both_75 rfl (lv_at hl 2 rfl) ?_
      refine va_get (D := (dC, dI)) (ci := 8) (v := .ref a_page) (C := RX10) (T := TX10) (N := 31) hx hb hts iX10 hown hK hP 0 rfl rfl 13 (by decide) f16 (fun _ h9 => h9) rfl dX10_both_76 ?_
      refine lv_bipush (v := (8 : Int32)) hx hb dX10_both_79 (by decide) ?_
      refine va_iald hx hb hK hP 2 0 rfl rfl (inB_s (by decide)) dX10_both_81 ?_
      refine lv_iconst (v := (1 : Int32)) hx hb dX10_both_82 (by decide) ?_
      refine lv_iadd hx hb dX10_both_83 ?_
      refine lv_bipush (v := (7 : Int32)) hx hb dX10_both_84 (by decide) ?_
      refine lv_irem hx hb dX10_both_86 (by decide) ?_
      refine lv_aload_n hx hb dX10_both_87 rfl (lv_at hl 2 rfl) ?_
      refine va_get (D := (dC, dI)) (ci := 8) (v := .int v_isSo) (C := RX10) (T := TX10) (N := 31) hx hb hts iX10 hown hK hP 0 rfl rfl 7 (by decide) f105 (fun _ h9 => h9) rfl dX10_both_88 ?_
      obtain ⟨r11, w12, ho13, hm⟩ := bd2_s hm
      refine kb_calli (Rv := r11) (va_runV (As := [.int (-9 : Int32), .int x7, .int (v_page (Int32.toNatClampNeg (8 : Int32))), .int (((v_page (Int32.toNatClampNeg (8 : Int32))) + (1 : Int32)) - ((v_page (Int32.toNatClampNeg (8 : Int32))) + (1 : Int32)) / (7 : Int32) * (7 : Int32)), .int v_isSo]) (rest := []) ⟨hx, hb, hml, hown, hts⟩ (c_X10_answerOf l dC dI cI cJ cZ cQ t H.size a_th a_question a_stack q_text (.ref a_page) q_book q_bookSeed q_kept q_isKept q_toldSimple q_toldDay q_toldYes q_yesOf q_noOf q_factOf q_one q_two q_three (0 : Int32) v_textSize v_place v_questionSize v_facts v_isSo v_common v_readFacts v_readSo v_readCommon v_readDay v_seed v_acts v_told v_question w9 (-9 : Int32) x7 (v_page (Int32.toNatClampNeg (8 : Int32))) (((v_page (Int32.toNatClampNeg (8 : Int32))) + (1 : Int32)) - ((v_page (Int32.toNatClampNeg (8 : Int32))) + (1 : Int32)) / (7 : Int32) * (7 : Int32)) v_isSo (r11, w12) ho13) (cwV 5 hts gX10_both_X10_answerOf rfl rfl rfl (by decide +kernel) ⟨(Nat.le_of_ble_eq_true rfl), (Nat.le_of_ble_eq_true rfl)⟩) ⟨(kb_pre hK hG hP (kb_D hD rfl) hS hA [0, 1, 3] rfl (by decide)).1, (va_recv hK hP (ci := 8) (q0 := 0) rfl rfl), (kb_pre hK hG hP (kb_D hD rfl) hS hA [0, 1, 3] rfl (by decide)).2⟩ rfl rfl hl.1 rfl (lv_room (Nat.le_of_ble_eq_true rfl)) dX10_both_91 ⟨Nat.zero_le _, Nat.zero_le _⟩) hP (kb_D hD rfl) hS hA [0, 1, 3] rfl [(true, 0), (true, 1), (false, 2), (true, 2)] (w2 := [oX10 a_th (.int (0 : Int32)) q_text (.int v_textSize) (.int v_place) (.ref a_question) (.int v_questionSize) (.int v_facts) (.int v_isSo) (.int v_common) (.int v_readFacts) (.int v_readSo) (.int v_readCommon) (.int v_readDay) (.ref a_page) (.long v_seed) q_book q_bookSeed (.int v_acts) q_kept q_isKept (.int v_told) q_toldSimple q_toldDay q_toldYes q_yesOf q_noOf q_factOf (.ref a_stack) q_one q_two q_three, aI cI a_question 16 v_question, aI cI a_page 12 v_page, aI cZ a_stack 17 w12]) rfl (by decide) (fun H locs hP hS => ?_)
      refine lv_istore (lv' := [(4, .int r11), (3, .int r8), (2, .int x7), (0, .ref a_th), (1, .int p_1)]) hx hb dX10_both_94 hl (by decide) rfl (fun ls hl => ?_)
      refine lv_iconst (v := (0 : Int32)) hx hb dX10_both_96 (by decide) ?_
      refine lv_istore (lv' := [(5, .int (0 : Int32)), (4, .int r11), (3, .int r8), (2, .int x7), (0, .ref a_th), (1, .int p_1)]) hx hb dX10_both_97 hl (by decide) rfl (fun ls hl => ?_)
      refine lv_iconst (v := (0 : Int32)) hx hb dX10_both_99 (by decide) ?_
      refine lv_istore (lv' := [(6, .int (0 : Int32)), (5, .int (0 : Int32)), (4, .int r11), (3, .int r8), (2, .int x7), (0, .ref a_th), (1, .int p_1)]) hx hb dX10_both_100 hl (by decide) rfl (fun ls hl => ?_)
      have lp102 : ∀ (n102 : Nat) (x14 : Int32) (x15 : Int32) (w16 : (Nat → Int32)) (k102 : Int32 → (Nat → Int32) → Option (Int32 × Int32 × (Nat → Int32))) (H : Heap) (locs : List Loc) (ls : Array Slot), L_X10_both_102 v_questionSize v_facts v_question v_page p_1 x7 r8 r11 n102 x14 x15 w16 k102 = some o → (∀ (x17 : Int32) (w18 : (Nat → Int32)) (H : Heap) (locs : List Loc) (ls : Array Slot), k102 x17 w18 = some o → va_P (dC, dI) vwCl [oX10 a_th (.int (0 : Int32)) q_text (.int v_textSize) (.int v_place) (.ref a_question) (.int v_questionSize) (.int v_facts) (.int v_isSo) (.int v_common) (.int v_readFacts) (.int v_readSo) (.int v_readCommon) (.int v_readDay) (.ref a_page) (.long v_seed) q_book q_bookSeed (.int v_acts) q_kept q_isKept (.int v_told) q_toldSimple q_toldDay q_toldYes q_yesOf q_noOf q_factOf (.ref a_stack) q_one q_two q_three, aI cI a_question 16 v_question, aI cI a_page 12 v_page, aI cZ a_stack 17 w18] H → va_S A s.heap H locs → lv_has ls 10 [(5, .int x17)] → W p l e (headSpec wsX10_both { frames := 4, cells := 0, slots := 0, locals := 104 }).room s m [.ref a_th, .int p_1].toArray below meth c H locs 0 0 Q (F0 m 227 ls [])) → va_P (dC, dI) vwCl [oX10 a_th (.int (0 : Int32)) q_text (.int v_textSize) (.int v_place) (.ref a_question) (.int v_questionSize) (.int v_facts) (.int v_isSo) (.int v_common) (.int v_readFacts) (.int v_readSo) (.int v_readCommon) (.int v_readDay) (.ref a_page) (.long v_seed) q_book q_bookSeed (.int v_acts) q_kept q_isKept (.int v_told) q_toldSimple q_toldDay q_toldYes q_yesOf q_noOf q_factOf (.ref a_stack) q_one q_two q_three, aI cI a_question 16 v_question, aI cI a_page 12 v_page, aI cZ a_stack 17 w16] H → va_S A s.heap H locs → lv_has ls 10 [(0, .ref a_th), (1, .int p_1), (2, .int x7), (3, .int r8), (4, .int r11), (5, .int x14), (6, .int x15)] → W p l e (headSpec wsX10_both { frames := 4, cells := 0, slots := 0, locals := 104 }).room s m [.ref a_th, .int p_1].toArray below meth c H locs 0 0 Q (F0 m 102 ls []) := by
        intro n102
        induction n102 with
        | zero =>
          intro x14 x15 w16 k102 H locs ls hm
          cases (show (none : Option (Int32 × Int32 × (Nat → Int32))) = some o from hm)
        | succ n102 ih102 =>
          intro x14 x15 w16 k102 H locs ls hm hk102 hP hS hl
          rw [L_X10_both_102.eq_2] at hm
          refine lv_iload hx hb dX10_both_102 (lv_at hl 6 rfl) ?_
          refine lv_bipush (v := (7 : Int32)) hx hb dX10_both_104 (by decide) ?_
          refine lv_icmp_ge (tgt := 227) hx hb dX10_both_106 (by decide) (fun c19 => ?_) (fun c19 => ?_)
          · replace hm := ite_t c19 hm
            exact hk102 x14 w16 _ _ _ hm hP hS (lv_sub hl [5] rfl)
          · replace hm := ite_f c19 hm
            refine lv_iconst (v := (0 : Int32)) hx hb dX10_both_109 (by decide) ?_
            refine lv_istore (lv' := [(7, .int (0 : Int32)), (0, .ref a_th), (1, .int p_1), (2, .int x7), (3, .int r8), (4, .int r11), (5, .int x14), (6, .int x15)]) hx hb dX10_both_110 hl (by decide) rfl (fun ls hl => ?_)
            have lp112 : ∀ (n112 : Nat) (x20 : Int32) (x21 : Int32) (w22 : (Nat → Int32)) (k112 : Int32 → (Nat → Int32) → Option (Int32 × Int32 × (Nat → Int32))) (H : Heap) (locs : List Loc) (ls : Array Slot), L_X10_both_112 v_questionSize v_facts v_question v_page p_1 x7 r8 r11 x15 n112 x20 x21 w22 k112 = some o → (∀ (x23 : Int32) (w24 : (Nat → Int32)) (H : Heap) (locs : List Loc) (ls : Array Slot), k112 x23 w24 = some o → va_P (dC, dI) vwCl [oX10 a_th (.int (0 : Int32)) q_text (.int v_textSize) (.int v_place) (.ref a_question) (.int v_questionSize) (.int v_facts) (.int v_isSo) (.int v_common) (.int v_readFacts) (.int v_readSo) (.int v_readCommon) (.int v_readDay) (.ref a_page) (.long v_seed) q_book q_bookSeed (.int v_acts) q_kept q_isKept (.int v_told) q_toldSimple q_toldDay q_toldYes q_yesOf q_noOf q_factOf (.ref a_stack) q_one q_two q_three, aI cI a_question 16 v_question, aI cI a_page 12 v_page, aI cZ a_stack 17 w24] H → va_S A s.heap H locs → lv_has ls 10 [(0, .ref a_th), (1, .int p_1), (2, .int x7), (3, .int r8), (4, .int r11), (5, .int x23), (6, .int x15)] → W p l e (headSpec wsX10_both { frames := 4, cells := 0, slots := 0, locals := 104 }).room s m [.ref a_th, .int p_1].toArray below meth c H locs 0 0 Q (F0 m 221 ls [])) → va_P (dC, dI) vwCl [oX10 a_th (.int (0 : Int32)) q_text (.int v_textSize) (.int v_place) (.ref a_question) (.int v_questionSize) (.int v_facts) (.int v_isSo) (.int v_common) (.int v_readFacts) (.int v_readSo) (.int v_readCommon) (.int v_readDay) (.ref a_page) (.long v_seed) q_book q_bookSeed (.int v_acts) q_kept q_isKept (.int v_told) q_toldSimple q_toldDay q_toldYes q_yesOf q_noOf q_factOf (.ref a_stack) q_one q_two q_three, aI cI a_question 16 v_question, aI cI a_page 12 v_page, aI cZ a_stack 17 w22] H → va_S A s.heap H locs → lv_has ls 10 [(0, .ref a_th), (1, .int p_1), (2, .int x7), (3, .int r8), (4, .int r11), (5, .int x20), (6, .int x15), (7, .int x21)] → W p l e (headSpec wsX10_both { frames := 4, cells := 0, slots := 0, locals := 104 }).room s m [.ref a_th, .int p_1].toArray below meth c H locs 0 0 Q (F0 m 112 ls []) := by
              intro n112
              induction n112 with
              | zero =>
                intro x20 x21 w22 k112 H locs ls hm
                cases (show (none : Option (Int32 × Int32 × (Nat → Int32))) = some o from hm)
              | succ n112 ih112 =>
                intro x20 x21 w22 k112 H locs ls hm hk112 hP hS hl
                rw [L_X10_both_112.eq_2] at hm
                refine lv_iload hx hb dX10_both_112 (lv_at hl 7 rfl) ?_
                refine lv_iconst (v := (1 : Int32)) hx hb dX10_both_114 (by decide) ?_
                refine lv_aload_n hx hb dX10_both_115 rfl (lv_at hl 0 rfl) ?_
                refine va_get (D := (dC, dI)) (ci := 8) (v := .int v_facts) (C := RX10) (T := TX10) (N := 31) hx hb hts iX10 hown hK hP 0 rfl rfl 6 (by decide) f102 (fun _ h9 => h9) rfl dX10_both_116 ?_
                refine lv_ishl hx hb dX10_both_119 ?_
                refine lv_icmp_ge (tgt := 221) hx hb dX10_both_120 (by decide) (fun c25 => ?_) (fun c25 => ?_)
                · replace hm := ite_t c25 hm
                  exact hk112 x20 w22 _ _ _ hm hP hS (lv_sub hl [0, 1, 2, 3, 4, 5, 6] rfl)
                · replace hm := ite_f c25 hm
                  refine lv_aload_n hx hb dX10_both_123 rfl (lv_at hl 0 rfl) ?_
                  refine va_get (D := (dC, dI)) (ci := 8) (v := .ref a_page) (C := RX10) (T := TX10) (N := 31) hx hb hts iX10 hown hK hP 0 rfl rfl 13 (by decide) f16 (fun _ h9 => h9) rfl dX10_both_124 ?_
                  refine lv_iload hx hb dX10_both_127 (lv_at hl 6 rfl) ?_
                  obtain ⟨h26, hm⟩ := gd_s hm
                  refine va_iald hx hb hK hP 2 0 rfl rfl (inB_s h26) dX10_both_129 ?_
                  refine lv_iload hx hb dX10_both_130 (lv_at hl 7 rfl) ?_
                  obtain ⟨r27, ho28, hm⟩ := bd1_s hm
                  refine kb_calli (Rv := r27) (va_runS (As := [.int (v_page (Int32.toNatClampNeg x15)), .int x21]) (rest := []) ⟨hx, hb, hml, hown, hts⟩ (c_X10_has l dC dI cI cJ cZ cQ t H.size (v_page (Int32.toNatClampNeg x15)) x21 (r27) ho28) (va_cwS 2 hts gX10_both_X10_has rfl rfl rfl (by decide +kernel) ⟨(Nat.le_of_ble_eq_true rfl), (Nat.le_of_ble_eq_true rfl)⟩) (kb_pre hK hG hP (kb_D hD rfl) hS hA [] rfl (by decide)) rfl rfl hl.1 rfl (lv_room (Nat.le_of_ble_eq_true rfl)) dX10_both_132 ⟨Nat.zero_le _, Nat.zero_le _⟩) hP (kb_D hD rfl) hS hA [] rfl [(false, 0), (false, 1), (false, 2), (false, 3)] (w2 := [oX10 a_th (.int (0 : Int32)) q_text (.int v_textSize) (.int v_place) (.ref a_question) (.int v_questionSize) (.int v_facts) (.int v_isSo) (.int v_common) (.int v_readFacts) (.int v_readSo) (.int v_readCommon) (.int v_readDay) (.ref a_page) (.long v_seed) q_book q_bookSeed (.int v_acts) q_kept q_isKept (.int v_told) q_toldSimple q_toldDay q_toldYes q_yesOf q_noOf q_factOf (.ref a_stack) q_one q_two q_three, aI cI a_question 16 v_question, aI cI a_page 12 v_page, aI cZ a_stack 17 w22]) rfl (by decide) (fun H locs hP hS => ?_)
                  obtain ⟨k215, ek215, hm⟩ := nm_s hm
                  have J215 : ∀ (x29 : Int32) (w30 : (Nat → Int32)) (H : Heap) (locs : List Loc) (ls : Array Slot), k215 x29 w30 = some o → va_P (dC, dI) vwCl [oX10 a_th (.int (0 : Int32)) q_text (.int v_textSize) (.int v_place) (.ref a_question) (.int v_questionSize) (.int v_facts) (.int v_isSo) (.int v_common) (.int v_readFacts) (.int v_readSo) (.int v_readCommon) (.int v_readDay) (.ref a_page) (.long v_seed) q_book q_bookSeed (.int v_acts) q_kept q_isKept (.int v_told) q_toldSimple q_toldDay q_toldYes q_yesOf q_noOf q_factOf (.ref a_stack) q_one q_two q_three, aI cI a_question 16 v_question, aI cI a_page 12 v_page, aI cZ a_stack 17 w30] H → va_S A s.heap H locs → lv_has ls 10 [(0, .ref a_th), (1, .int p_1), (2, .int x7), (3, .int r8), (4, .int r11), (5, .int x29), (6, .int x15), (7, .int x21)] → W p l e (headSpec wsX10_both { frames := 4, cells := 0, slots := 0, locals := 104 }).room s m [.ref a_th, .int p_1].toArray below meth c H locs 0 0 Q (F0 m 215 ls []) := by
                    intro x29 w30 H locs ls hm hP hS hl
                    rw [ek215] at hm
                    obtain ⟨x31, ex31⟩ : ∃ y : Int32, y = x21 + (1 : Int32) := ⟨_, rfl⟩
                    replace hm := nm_t ex31 hm
                    refine lv_iinc (v := x31) (lv' := [(7, .int x31), (0, .ref a_th), (1, .int p_1), (2, .int x7), (3, .int r8), (4, .int r11), (5, .int x29), (6, .int x15)]) hx hb dX10_both_215 hl (k := 7) rfl (by rw [ex31]; rfl) (by decide) rfl (fun ls hl => ?_)
                    refine lv_goto (tgt := 112) hx hb dX10_both_218 (by decide) ?_
                    exact ih112 x29 x31 w30 k112 _ _ _ hm hk112 hP hS (lv_sub hl [1, 2, 3, 4, 5, 6, 7, 0] rfl)
                  refine lv_if_eq (tgt := 215) hx hb dX10_both_135 (by decide) (fun c32 => ?_) (fun c32 => ?_)
                  · replace hm := ite_t c32 hm
                    exact J215 x20 w22 _ _ _ hm hP hS (lv_sub hl [0, 1, 2, 3, 4, 5, 6, 7] rfl)
                  · replace hm := ite_f c32 hm
                    refine lv_aload_n hx hb dX10_both_138 rfl (lv_at hl 0 rfl) ?_
                    refine lv_bipush (v := (-9 : Int32)) hx hb dX10_both_139 (by decide) ?_
                    refine lv_iload_n hx hb dX10_both_141 rfl (lv_at hl 2 rfl) ?_
                    refine lv_iload hx hb dX10_both_142 (lv_at hl 6 rfl) ?_
                    refine lv_iload hx hb dX10_both_144 (lv_at hl 6 rfl) ?_
                    refine lv_iload hx hb dX10_both_146 (lv_at hl 7 rfl) ?_
                    obtain ⟨r33, w34, ho35, hm⟩ := bd2_s hm
                    refine kb_calli (Rv := r33) (va_runV (As := [.int (-9 : Int32), .int x7, .int x15, .int x15, .int x21]) (rest := []) ⟨hx, hb, hml, hown, hts⟩ (c_X10_answerOf l dC dI cI cJ cZ cQ t H.size a_th a_question a_stack q_text (.ref a_page) q_book q_bookSeed q_kept q_isKept q_toldSimple q_toldDay q_toldYes q_yesOf q_noOf q_factOf q_one q_two q_three (0 : Int32) v_textSize v_place v_questionSize v_facts v_isSo v_common v_readFacts v_readSo v_readCommon v_readDay v_seed v_acts v_told v_question w22 (-9 : Int32) x7 x15 x15 x21 (r33, w34) ho35) (cwV 5 hts gX10_both_X10_answerOf rfl rfl rfl (by decide +kernel) ⟨(Nat.le_of_ble_eq_true rfl), (Nat.le_of_ble_eq_true rfl)⟩) ⟨(kb_pre hK hG hP (kb_D hD rfl) hS hA [0, 1, 3] rfl (by decide)).1, (va_recv hK hP (ci := 8) (q0 := 0) rfl rfl), (kb_pre hK hG hP (kb_D hD rfl) hS hA [0, 1, 3] rfl (by decide)).2⟩ rfl rfl hl.1 rfl (lv_room (Nat.le_of_ble_eq_true rfl)) dX10_both_148 ⟨Nat.zero_le _, Nat.zero_le _⟩) hP (kb_D hD rfl) hS hA [0, 1, 3] rfl [(true, 0), (true, 1), (false, 2), (true, 2)] (w2 := [oX10 a_th (.int (0 : Int32)) q_text (.int v_textSize) (.int v_place) (.ref a_question) (.int v_questionSize) (.int v_facts) (.int v_isSo) (.int v_common) (.int v_readFacts) (.int v_readSo) (.int v_readCommon) (.int v_readDay) (.ref a_page) (.long v_seed) q_book q_bookSeed (.int v_acts) q_kept q_isKept (.int v_told) q_toldSimple q_toldDay q_toldYes q_yesOf q_noOf q_factOf (.ref a_stack) q_one q_two q_three, aI cI a_question 16 v_question, aI cI a_page 12 v_page, aI cZ a_stack 17 w34]) rfl (by decide) (fun H locs hP hS => ?_)
                    refine lv_istore (lv' := [(8, .int r33), (0, .ref a_th), (1, .int p_1), (2, .int x7), (3, .int r8), (4, .int r11), (5, .int x20), (6, .int x15), (7, .int x21)]) hx hb dX10_both_151 hl (by decide) rfl (fun ls hl => ?_)
                    refine lv_aload_n hx hb dX10_both_153 rfl (lv_at hl 1 rfl) ?_
                    refine lv_bipush (v := (-9 : Int32)) hx hb dX10_both_154 (by decide) ?_
                    refine lv_iload_n hx hb dX10_both_156 rfl (lv_at hl 3 rfl) ?_
                    refine lv_iload hx hb dX10_both_157 (lv_at hl 7 rfl) ?_
                    refine lv_iload hx hb dX10_both_159 (lv_at hl 7 rfl) ?_
                    refine lv_iconst (v := (1 : Int32)) hx hb dX10_both_161 (by decide) ?_
                    refine lv_iadd hx hb dX10_both_162 ?_
                    refine lv_bipush (v := (7 : Int32)) hx hb dX10_both_163 (by decide) ?_
                    refine lv_irem hx hb dX10_both_165 (by decide) ?_
                    refine lv_iload hx hb dX10_both_166 (lv_at hl 8 rfl) ?_
                    obtain ⟨r36, w37, ho38, hm⟩ := bd2_s hm
                    refine kb_calli (Rv := r36) (va_runV (As := [.int (-9 : Int32), .int x7, .int x15, .int ((x15 + (1 : Int32)) - (x15 + (1 : Int32)) / (7 : Int32) * (7 : Int32)), .int x21]) (rest := []) ⟨hx, hb, hml, hown, hts⟩ (c_X10_answerOf l dC dI cI cJ cZ cQ t H.size a_th a_question a_stack q_text (.ref a_page) q_book q_bookSeed q_kept q_isKept q_toldSimple q_toldDay q_toldYes q_yesOf q_noOf q_factOf q_one q_two q_three (0 : Int32) v_textSize v_place v_questionSize v_facts v_isSo v_common v_readFacts v_readSo v_readCommon v_readDay v_seed v_acts v_told v_question w34 (-9 : Int32) x7 x15 ((x15 + (1 : Int32)) - (x15 + (1 : Int32)) / (7 : Int32) * (7 : Int32)) x21 (r36, w37) ho38) (cwV 5 hts gX10_both_X10_answerOf rfl rfl rfl (by decide +kernel) ⟨(Nat.le_of_ble_eq_true rfl), (Nat.le_of_ble_eq_true rfl)⟩) ⟨(kb_pre hK hG hP (kb_D hD rfl) hS hA [0, 1, 3] rfl (by decide)).1, (va_recv hK hP (ci := 8) (q0 := 0) rfl rfl), (kb_pre hK hG hP (kb_D hD rfl) hS hA [0, 1, 3] rfl (by decide)).2⟩ rfl rfl hl.1 rfl (lv_room (Nat.le_of_ble_eq_true rfl)) dX10_both_168 ⟨Nat.zero_le _, Nat.zero_le _⟩) hP (kb_D hD rfl) hS hA [0, 1, 3] rfl [(true, 0), (true, 1), (false, 2), (true, 2)] (w2 := [oX10 a_th (.int (0 : Int32)) q_text (.int v_textSize) (.int v_place) (.ref a_question) (.int v_questionSize) (.int v_facts) (.int v_isSo) (.int v_common) (.int v_readFacts) (.int v_readSo) (.int v_readCommon) (.int v_readDay) (.ref a_page) (.long v_seed) q_book q_bookSeed (.int v_acts) q_kept q_isKept (.int v_told) q_toldSimple q_toldDay q_toldYes q_yesOf q_noOf q_factOf (.ref a_stack) q_one q_two q_three, aI cI a_question 16 v_question, aI cI a_page 12 v_page, aI cZ a_stack 17 w37]) rfl (by decide) (fun H locs hP hS => ?_)
                    refine lv_istore (lv' := [(9, .int r36), (8, .int r33), (0, .ref a_th), (1, .int p_1), (2, .int x7), (3, .int r8), (4, .int r11), (5, .int x20), (6, .int x15), (7, .int x21)]) hx hb dX10_both_171 hl (by decide) rfl (fun ls hl => ?_)
                    refine lv_iload hx hb dX10_both_173 (lv_at hl 7 rfl) ?_
                    refine lv_iload_n hx hb dX10_both_175 rfl (lv_at hl 3 rfl) ?_
                    obtain ⟨k212, ek212, hm⟩ := nm_s hm
                    have J212 : ∀ (x39 : Int32) (H : Heap) (locs : List Loc) (ls : Array Slot), k212 x39 = some o → va_P (dC, dI) vwCl [oX10 a_th (.int (0 : Int32)) q_text (.int v_textSize) (.int v_place) (.ref a_question) (.int v_questionSize) (.int v_facts) (.int v_isSo) (.int v_common) (.int v_readFacts) (.int v_readSo) (.int v_readCommon) (.int v_readDay) (.ref a_page) (.long v_seed) q_book q_bookSeed (.int v_acts) q_kept q_isKept (.int v_told) q_toldSimple q_toldDay q_toldYes q_yesOf q_noOf q_factOf (.ref a_stack) q_one q_two q_three, aI cI a_question 16 v_question, aI cI a_page 12 v_page, aI cZ a_stack 17 w37] H → va_S A s.heap H locs → lv_has ls 10 [(0, .ref a_th), (1, .int p_1), (2, .int x7), (3, .int r8), (4, .int r11), (6, .int x15), (7, .int x21)] → W p l e (headSpec wsX10_both { frames := 4, cells := 0, slots := 0, locals := 104 }).room s m [.ref a_th, .int p_1].toArray below meth c H locs 0 0 Q (F0 m 212 ls [.int x39, .int x20]) := by
                      intro x39 H locs ls hm hP hS hl
                      rw [ek212] at hm
                      refine lv_iadd hx hb dX10_both_212 ?_
                      refine lv_topi (fun x40 ex40 => ?_)
                      replace hm := nm_t ex40 hm
                      refine lv_istore (lv' := [(5, .int x40), (0, .ref a_th), (1, .int p_1), (2, .int x7), (3, .int r8), (4, .int r11), (6, .int x15), (7, .int x21)]) hx hb dX10_both_213 hl (by decide) rfl (fun ls hl => ?_)
                      exact J215 x40 w37 _ _ _ hm hP hS (lv_sub hl [1, 2, 3, 4, 5, 0, 6, 7] rfl)
                    refine lv_if_ne (tgt := 200) hx hb dX10_both_176 (by decide) (fun c41 => ?_) (fun c41 => ?_)
                    · replace hm := ite_f c41 hm
                      refine lv_iload hx hb dX10_both_200 (lv_at hl 1 rfl) ?_
                      refine lv_iload hx hb dX10_both_202 (lv_at hl 0 rfl) ?_
                      refine lv_icmp_ne (tgt := 211) hx hb dX10_both_204 (by decide) (fun c42 => ?_) (fun c42 => ?_)
                      · replace hm := ite_f c42 hm
                        refine lv_iconst (v := (0 : Int32)) hx hb dX10_both_211 (by decide) ?_
                        exact J212 (0 : Int32) _ _ _ hm hP hS (lv_sub hl [2, 3, 4, 5, 6, 8, 9] rfl)
                      · replace hm := ite_t c42 hm
                        refine lv_iconst (v := (1 : Int32)) hx hb dX10_both_207 (by decide) ?_
                        refine lv_goto (tgt := 212) hx hb dX10_both_208 (by decide) ?_
                        exact J212 (1 : Int32) _ _ _ hm hP hS (lv_sub hl [2, 3, 4, 5, 6, 8, 9] rfl)
                    · replace hm := ite_t c41 hm
                      refine lv_iload hx hb dX10_both_179 (lv_at hl 1 rfl) ?_
                      refine lv_iload_n hx hb dX10_both_181 rfl (lv_at hl 5 rfl) ?_
                      obtain ⟨k196, ek196, hm⟩ := nm_s hm
                      have J196 : ∀ (H : Heap) (locs : List Loc) (ls : Array Slot), k196 = some o → va_P (dC, dI) vwCl [oX10 a_th (.int (0 : Int32)) q_text (.int v_textSize) (.int v_place) (.ref a_question) (.int v_questionSize) (.int v_facts) (.int v_isSo) (.int v_common) (.int v_readFacts) (.int v_readSo) (.int v_readCommon) (.int v_readDay) (.ref a_page) (.long v_seed) q_book q_bookSeed (.int v_acts) q_kept q_isKept (.int v_told) q_toldSimple q_toldDay q_toldYes q_yesOf q_noOf q_factOf (.ref a_stack) q_one q_two q_three, aI cI a_question 16 v_question, aI cI a_page 12 v_page, aI cZ a_stack 17 w37] H → va_S A s.heap H locs → lv_has ls 10 [(0, .ref a_th), (1, .int p_1), (2, .int x7), (3, .int r8), (4, .int r11), (6, .int x15), (7, .int x21)] → W p l e (headSpec wsX10_both { frames := 4, cells := 0, slots := 0, locals := 104 }).room s m [.ref a_th, .int p_1].toArray below meth c H locs 0 0 Q (F0 m 196 ls [.int x20]) := by
                        intro  H locs ls hm hP hS hl
                        rw [ek196] at hm
                        refine lv_iconst (v := (0 : Int32)) hx hb dX10_both_196 (by decide) ?_
                        refine lv_goto (tgt := 212) hx hb dX10_both_197 (by decide) ?_
                        exact J212 (0 : Int32) _ _ _ hm hP hS (lv_sub hl [0, 1, 2, 3, 4, 5, 6] rfl)
                      refine lv_icmp_ne (tgt := 196) hx hb dX10_both_182 (by decide) (fun c43 => ?_) (fun c43 => ?_)
                      · replace hm := ite_f c43 hm
                        exact J196  _ _ _ hm hP hS (lv_sub hl [2, 3, 4, 5, 6, 8, 9] rfl)
                      · replace hm := ite_t c43 hm
                        refine lv_iload hx hb dX10_both_185 (lv_at hl 0 rfl) ?_
                        refine lv_iload hx hb dX10_both_187 (lv_at hl 6 rfl) ?_
                        refine lv_icmp_ne (tgt := 196) hx hb dX10_both_189 (by decide) (fun c44 => ?_) (fun c44 => ?_)
                        · replace hm := ite_f c44 hm
                          exact J196  _ _ _ hm hP hS (lv_sub hl [2, 3, 4, 5, 6, 8, 9] rfl)
                        · replace hm := ite_t c44 hm
                          refine lv_iconst (v := (1 : Int32)) hx hb dX10_both_192 (by decide) ?_
                          refine lv_goto (tgt := 212) hx hb dX10_both_193 (by decide) ?_
                          exact J212 (1 : Int32) _ _ _ hm hP hS (lv_sub hl [2, 3, 4, 5, 6, 8, 9] rfl)
            refine lp112 1024 x14 (0 : Int32) w16 _ _ _ _ hm (fun x23 w24 H locs ls hm hP hS hl => ?_) hP hS (lv_sub hl [1, 2, 3, 4, 5, 6, 7, 0] rfl)
            obtain ⟨x45, ex45⟩ : ∃ y : Int32, y = x15 + (1 : Int32) := ⟨_, rfl⟩
            replace hm := nm_t ex45 hm
            refine lv_iinc (v := x45) (lv' := [(6, .int x45), (0, .ref a_th), (1, .int p_1), (2, .int x7), (3, .int r8), (4, .int r11), (5, .int x23)]) hx hb dX10_both_221 hl (k := 6) rfl (by rw [ex45]; rfl) (by decide) rfl (fun ls hl => ?_)
            refine lv_goto (tgt := 102) hx hb dX10_both_224 (by decide) ?_
            exact ih102 x23 x45 w24 k102 _ _ _ hm hk102 hP hS (lv_sub hl [1, 2, 3, 4, 5, 6, 0] rfl)
      refine lp102 1024 (0 : Int32) (0 : Int32) w12 _ _ _ _ hm (fun x17 w18 H locs ls hm hP hS hl => ?_) hP hS (lv_sub hl [5, 6, 4, 3, 2, 1, 0] rfl)
      refine lv_iload hx hb dX10_both_227 (lv_at hl 0 rfl) ?_
      obtain rfl := Option.some.inj hm
      subst hQ
      exact W.iret hx hb hr (fun t ht hW => ⟨⟨_, (), rfl, rfl, kb_h hP ht⟩, hS.F ht⟩) hS.2.2 dX10_both_229
    · replace hm := ite_f c6 hm
      refine lv_bipush (v := (-3 : Int32)) hx hb dX10_both_27 (by decide) ?_
      obtain rfl := Option.some.inj hm
      subst hQ
      exact W.iret hx hb hr (fun t ht hW => ⟨⟨_, (), rfl, rfl, kb_h hP ht⟩, hS.F ht⟩) hS.2.2 dX10_both_29
  · replace hm := ite_t c3 hm
    refine lv_bipush (v := (-2 : Int32)) hx hb dX10_both_15 (by decide) ?_
    obtain rfl := Option.some.inj hm
    subst hQ
    exact W.iret hx hb hr (fun t ht hW => ⟨⟨_, (), rfl, rfl, kb_h hP ht⟩, hS.F ht⟩) hS.2.2 dX10_both_17
set_option maxHeartbeats 4000000 in
set_option maxRecDepth 100000 in
theorem c_X10_tell (l : Launch) (dC : Nat → ClassId) (dI : Nat → Nat → Nat) (cI cJ cZ cQ : ClassId) (t sz : Nat) (a_th : Nat) (a_toldSimple : Nat) (a_toldDay : Nat) (a_toldYes : Nat) (q_text : Value) (q_question : Value) (q_page : Value) (q_book : Value) (q_bookSeed : Value) (q_kept : Value) (q_isKept : Value) (q_yesOf : Value) (q_noOf : Value) (q_factOf : Value) (q_stack : Value) (q_one : Value) (q_two : Value) (q_three : Value) (v_thrown : Int32) (v_textSize : Int32) (v_place : Int32) (v_questionSize : Int32) (v_facts : Int32) (v_isSo : Int32) (v_common : Int32) (v_readFacts : Int32) (v_readSo : Int32) (v_readCommon : Int32) (v_readDay : Int32) (v_seed : Int64) (v_acts : Int32) (v_told : Int32) (v_toldSimple : (Nat → Int32)) (v_toldDay : (Nat → Int32)) (v_toldYes : (Nat → Int32)) (p_1 : Int32) (p_2 : Int32) (p_3 : Int32) (o : Int32 × Int32 × Int32 × (Nat → Int32) × (Nat → Int32) × (Nat → Int32)) (hm : m_X10_tell p_1 p_2 p_3 v_thrown v_facts v_told v_toldSimple v_toldDay v_toldYes = some o) : Met l yX10_tell wsX10_tell { frames := 2, cells := 0, slots := 0, locals := 46 } (va_Pc [.ref a_th, .int p_1, .int p_2, .int p_3] (cP (dC, dI) (kT cI cJ cZ cQ) t sz [oX10 a_th (.int v_thrown) q_text (.int v_textSize) (.int v_place) q_question (.int v_questionSize) (.int v_facts) (.int v_isSo) (.int v_common) (.int v_readFacts) (.int v_readSo) (.int v_readCommon) (.int v_readDay) q_page (.long v_seed) q_book q_bookSeed (.int v_acts) q_kept q_isKept (.int v_told) (.ref a_toldSimple) (.ref a_toldDay) (.ref a_toldYes) q_yesOf q_noOf q_factOf q_stack q_one q_two q_three, aI cI a_toldSimple 6 v_toldSimple, aI cI a_toldDay 6 v_toldDay, aI cZ a_toldYes 6 v_toldYes])) (cQi (dC, dI) (va_A [oX10 a_th (.int v_thrown) q_text (.int v_textSize) (.int v_place) q_question (.int v_questionSize) (.int v_facts) (.int v_isSo) (.int v_common) (.int v_readFacts) (.int v_readSo) (.int v_readCommon) (.int v_readDay) q_page (.long v_seed) q_book q_bookSeed (.int v_acts) q_kept q_isKept (.int v_told) (.ref a_toldSimple) (.ref a_toldDay) (.ref a_toldYes) q_yesOf q_noOf q_factOf q_stack q_one q_two q_three, aI cI a_toldSimple 6 v_toldSimple, aI cI a_toldDay 6 v_toldDay, aI cZ a_toldYes 6 v_toldYes] sz) o.1 [oX10 a_th (.int (o.2.1)) q_text (.int v_textSize) (.int v_place) q_question (.int v_questionSize) (.int v_facts) (.int v_isSo) (.int v_common) (.int v_readFacts) (.int v_readSo) (.int v_readCommon) (.int v_readDay) q_page (.long v_seed) q_book q_bookSeed (.int v_acts) q_kept q_isKept (.int (o.2.2.1)) (.ref a_toldSimple) (.ref a_toldDay) (.ref a_toldYes) q_yesOf q_noOf q_factOf q_stack q_one q_two q_three, aI cI a_toldSimple 6 (o.2.2.2.1), aI cI a_toldDay 6 (o.2.2.2.2.1), aI cZ a_toldYes 6 (o.2.2.2.2.2)]) 0 0 (va_A [oX10 a_th (.int v_thrown) q_text (.int v_textSize) (.int v_place) q_question (.int v_questionSize) (.int v_facts) (.int v_isSo) (.int v_common) (.int v_readFacts) (.int v_readSo) (.int v_readCommon) (.int v_readDay) q_page (.long v_seed) q_book q_bookSeed (.int v_acts) q_kept q_isKept (.int v_told) (.ref a_toldSimple) (.ref a_toldDay) (.ref a_toldYes) q_yesOf q_noOf q_factOf q_stack q_one q_two q_three, aI cI a_toldSimple 6 v_toldSimple, aI cI a_toldDay 6 v_toldDay, aI cZ a_toldYes 6 v_toldYes] sz) := by
  refine Met.ofW (cc := cX10_tell) (maxL := 4) (ret := (some .int)) (by decide) rfl ?_
  intro p e s m args below meth c s₁ B hml hv
  obtain ⟨rfl, hsz, hP, hK, hD0, hG⟩ := hv
  have hx := B.exec
  have hb := B.bytes
  have hr := B.returns
  have hts := atoms_spec (ws := wsX10_tell) B.pre
  have hown : s.vm.findClass RX10 = some m.cls := findClass_of_methodNamed B.named
  have hlocks := B.notSynchronized
  subst hsz
  have hD := hD0.self (sz := s.heap.size)
  generalize hAe : va_A [oX10 a_th (.int v_thrown) q_text (.int v_textSize) (.int v_place) q_question (.int v_questionSize) (.int v_facts) (.int v_isSo) (.int v_common) (.int v_readFacts) (.int v_readSo) (.int v_readCommon) (.int v_readDay) q_page (.long v_seed) q_book q_bookSeed (.int v_acts) q_kept q_isKept (.int v_told) (.ref a_toldSimple) (.ref a_toldDay) (.ref a_toldYes) q_yesOf q_noOf q_factOf q_stack q_one q_two q_three, aI cI a_toldSimple 6 v_toldSimple, aI cI a_toldDay 6 v_toldDay, aI cZ a_toldYes 6 v_toldYes] s.heap.size = A at hD hG ⊢
  have hA : ∀ q : Nat, s.heap.size ≤ q → A q := fun q h => by rw [← hAe]; exact Or.inr h
  have hS : va_S A s.heap s.heap [] := va_S.rf
  have hl := lv_entry ([.ref a_th, .int p_1, .int p_2, .int p_3]) (n := 4) (Nat.le_of_ble_eq_true rfl)
  rw [lg_entry_eq]
  generalize (lg_sl ([.ref a_th, .int p_1, .int p_2, .int p_3]) ++ List.replicate (4 - (lg_sl ([.ref a_th, .int p_1, .int p_2, .int p_3])).length) Slot.unset).toArray = ls at hl ⊢
  have hl : lv_has ls 4 [(0, .ref a_th), (1, .int p_1), (2, .int p_2), (3, .int p_3)] := hl
  have iX10 : ∀ w ∈ wsX100, w ∈ wsX10_tell := fun _ h => List.mem_cons_of_mem _ (List.mem_append_right _ h)
  have f66 := hts (.fieldLink RX10 66 "TrueOnceWeekModel" "thrown" "I") (by decide +kernel)
  have cl120 := hts (.constantLong RX10 120 (6 : Int64)) (by decide +kernel)
  have f136 := hts (.fieldLink RX10 136 "TrueOnceWeekModel" "told" "I") (by decide +kernel)
  have f33 := hts (.fieldLink RX10 33 "TrueOnceWeekModel" "toldSimple" "[I") (by decide +kernel)
  have f36 := hts (.fieldLink RX10 36 "TrueOnceWeekModel" "toldDay" "[I") (by decide +kernel)
  have f39 := hts (.fieldLink RX10 39 "TrueOnceWeekModel" "toldYes" "[Z") (by decide +kernel)
  refine kb_gen (fun Q hQ => ?_)
  unfold m_X10_tell at hm
  refine lv_aload_n hx hb dX10_tell_0 rfl (lv_at hl 0 rfl) ?_
  refine lv_iconst (v := (0 : Int32)) hx hb dX10_tell_1 (by decide) ?_
  refine va_put (D := (dC, dI)) (ci := 8) (v := .int (0 : Int32)) (ty := .int) (C := RX10) (T := TX10) (N := 31) hx hb hts iX10 tyX10 tyX10_ok nmX10 hown hK hP (kb_D hD rfl) hS 0 rfl rfl 0 (by decide) f66 (fun _ h9 => h9) rfl (by decide +kernel) rfl rfl (Nat.le_of_ble_eq_true rfl) dX10_tell_2 (fun H locs hP _ hS => ?_)
  have hP : va_P (dC, dI) vwCl [oX10 a_th (.int (0 : Int32)) q_text (.int v_textSize) (.int v_place) q_question (.int v_questionSize) (.int v_facts) (.int v_isSo) (.int v_common) (.int v_readFacts) (.int v_readSo) (.int v_readCommon) (.int v_readDay) q_page (.long v_seed) q_book q_bookSeed (.int v_acts) q_kept q_isKept (.int v_told) (.ref a_toldSimple) (.ref a_toldDay) (.ref a_toldYes) q_yesOf q_noOf q_factOf q_stack q_one q_two q_three, aI cI a_toldSimple 6 v_toldSimple, aI cI a_toldDay 6 v_toldDay, aI cZ a_toldYes 6 v_toldYes] H := hP
  refine lv_aload_n hx hb dX10_tell_5 rfl (lv_at hl 0 rfl) ?_
  refine lv_iload_n hx hb dX10_tell_6 rfl (lv_at hl 1 rfl) ?_
  obtain ⟨r1, ho2, hm⟩ := bd1_s hm
  refine kb_calli (Rv := r1) (va_runV (As := [.int p_1]) (rest := []) ⟨hx, hb, hml, hown, hts⟩ (c_X10_noSimple l dC dI cI cJ cZ cQ t H.size a_th q_text q_question q_page q_book q_bookSeed q_kept q_isKept (.ref a_toldSimple) (.ref a_toldDay) (.ref a_toldYes) q_yesOf q_noOf q_factOf q_stack q_one q_two q_three (0 : Int32) v_textSize v_place v_questionSize v_facts v_isSo v_common v_readFacts v_readSo v_readCommon v_readDay v_seed v_acts v_told p_1 (r1) ho2) (cwV 1 hts gX10_tell_X10_noSimple rfl rfl rfl (by decide +kernel) ⟨(Nat.le_of_ble_eq_true rfl), (Nat.le_of_ble_eq_true rfl)⟩) ⟨(kb_pre hK hG hP (kb_D hD rfl) hS hA [0] rfl (by decide)).1, (va_recv hK hP (ci := 8) (q0 := 0) rfl rfl), (kb_pre hK hG hP (kb_D hD rfl) hS hA [0] rfl (by decide)).2⟩ rfl rfl hl.1 rfl (lv_room (Nat.le_of_ble_eq_true rfl)) dX10_tell_7 ⟨Nat.zero_le _, Nat.zero_le _⟩) hP (kb_D hD rfl) hS hA [0] rfl [(true, 0), (false, 1), (false, 2), (false, 3)] (w2 := [oX10 a_th (.int (0 : Int32)) q_text (.int v_textSize) (.int v_place) q_question (.int v_questionSize) (.int v_facts) (.int v_isSo) (.int v_common) (.int v_readFacts) (.int v_readSo) (.int v_readCommon) (.int v_readDay) q_page (.long v_seed) q_book q_bookSeed (.int v_acts) q_kept q_isKept (.int v_told) (.ref a_toldSimple) (.ref a_toldDay) (.ref a_toldYes) q_yesOf q_noOf q_factOf q_stack q_one q_two q_three, aI cI a_toldSimple 6 v_toldSimple, aI cI a_toldDay 6 v_toldDay, aI cZ a_toldYes 6 v_toldYes]) rfl (by decide) (fun H locs hP hS => ?_)
  refine lv_if_ne (tgt := 25) hx hb dX10_tell_10 (by decide) (fun c3 => ?_) (fun c3 => ?_)
  · replace hm := ite_f c3 hm
    refine lv_bipush (v := (-2 : Int32)) hx hb dX10_tell_25 (by decide) ?_
    obtain rfl := Option.some.inj hm
    subst hQ
    exact W.iret hx hb hr (fun t ht hW => ⟨⟨_, (), rfl, rfl, kb_h hP ht⟩, hS.F ht⟩) hS.2.2 dX10_tell_27
  · replace hm := ite_t c3 hm
    refine lv_iload_n hx hb dX10_tell_13 rfl (lv_at hl 2 rfl) ?_
    refine lv_i2l (v := (Int32.toInt64 p_2)) hx hb dX10_tell_14 rfl ?_
    refine lv_lconst (v := (0 : Int64)) hx hb dX10_tell_15 (by decide) ?_
    refine lv_ldc2 (v := (6 : Int64)) hx hb hown cl120 dX10_tell_16 ?_
    obtain ⟨r4, ho5, hm⟩ := bd1_s hm
    refine kb_calli (Rv := r4) (va_runS (As := [.long (Int32.toInt64 p_2), .long (0 : Int64), .long (6 : Int64)]) (rest := []) ⟨hx, hb, hml, hown, hts⟩ (c_X10_in l dC dI cI cJ cZ cQ t H.size (Int32.toInt64 p_2) (0 : Int64) (6 : Int64) (r4) ho5) (va_cwS 3 hts gX10_tell_X10_in rfl rfl rfl (by decide +kernel) ⟨(Nat.le_of_ble_eq_true rfl), (Nat.le_of_ble_eq_true rfl)⟩) (kb_pre hK hG hP (kb_D hD rfl) hS hA [] rfl (by decide)) rfl rfl hl.1 rfl (lv_room (Nat.le_of_ble_eq_true rfl)) dX10_tell_19 ⟨Nat.zero_le _, Nat.zero_le _⟩) hP (kb_D hD rfl) hS hA [] rfl [(false, 0), (false, 1), (false, 2), (false, 3)] (w2 := [oX10 a_th (.int (0 : Int32)) q_text (.int v_textSize) (.int v_place) q_question (.int v_questionSize) (.int v_facts) (.int v_isSo) (.int v_common) (.int v_readFacts) (.int v_readSo) (.int v_readCommon) (.int v_readDay) q_page (.long v_seed) q_book q_bookSeed (.int v_acts) q_kept q_isKept (.int v_told) (.ref a_toldSimple) (.ref a_toldDay) (.ref a_toldYes) q_yesOf q_noOf q_factOf q_stack q_one q_two q_three, aI cI a_toldSimple 6 v_toldSimple, aI cI a_toldDay 6 v_toldDay, aI cZ a_toldYes 6 v_toldYes]) rfl (by decide) (fun H locs hP hS => ?_)
    refine lv_if_ne (tgt := 28) hx hb dX10_tell_22 (by decide) (fun c6 => ?_) (fun c6 => ?_)
    · replace hm := ite_f c6 hm
      refine lv_aload_n hx hb dX10_tell_28 rfl (lv_at hl 0 rfl) ?_
      refine va_get (D := (dC, dI)) (ci := 8) (v := .int v_told) (C := RX10) (T := TX10) (N := 31) hx hb hts iX10 hown hK hP 0 rfl rfl 20 (by decide) f136 (fun _ h9 => h9) rfl dX10_tell_29 ?_
      refine lv_bipush (v := (6 : Int32)) hx hb dX10_tell_32 (by decide) ?_
      refine lv_icmp_ne (tgt := 40) hx hb dX10_tell_34 (by decide) (fun c7 => ?_) (fun c7 => ?_)
      · replace hm := ite_f c7 hm
        refine lv_aload_n hx hb dX10_tell_40 rfl (lv_at hl 0 rfl) ?_
        refine va_get (D := (dC, dI)) (ci := 8) (v := .ref a_toldSimple) (C := RX10) (T := TX10) (N := 31) hx hb hts iX10 hown hK hP 0 rfl rfl 21 (by decide) f33 (fun _ h9 => h9) rfl dX10_tell_41 ?_
        refine lv_aload_n hx hb dX10_tell_44 rfl (lv_at hl 0 rfl) ?_
        refine va_get (D := (dC, dI)) (ci := 8) (v := .int v_told) (C := RX10) (T := TX10) (N := 31) hx hb hts iX10 hown hK hP 0 rfl rfl 20 (by decide) f136 (fun _ h9 => h9) rfl dX10_tell_45 ?_
        refine lv_iload_n hx hb dX10_tell_48 rfl (lv_at hl 1 rfl) ?_
        obtain ⟨h8, hm⟩ := gd_s hm
        refine va_iast hx hb hK hP (kb_D hD rfl) hS 1 0 rfl rfl (inB_s h8) dX10_tell_49 (fun H locs hP _ hS => ?_)
        have hP : va_P (dC, dI) vwCl [oX10 a_th (.int (0 : Int32)) q_text (.int v_textSize) (.int v_place) q_question (.int v_questionSize) (.int v_facts) (.int v_isSo) (.int v_common) (.int v_readFacts) (.int v_readSo) (.int v_readCommon) (.int v_readDay) q_page (.long v_seed) q_book q_bookSeed (.int v_acts) q_kept q_isKept (.int v_told) (.ref a_toldSimple) (.ref a_toldDay) (.ref a_toldYes) q_yesOf q_noOf q_factOf q_stack q_one q_two q_three, aI cI a_toldSimple 6 (upd v_toldSimple (Int32.toNatClampNeg v_told) p_1), aI cI a_toldDay 6 v_toldDay, aI cZ a_toldYes 6 v_toldYes] H := hP
        refine lv_aload_n hx hb dX10_tell_50 rfl (lv_at hl 0 rfl) ?_
        refine va_get (D := (dC, dI)) (ci := 8) (v := .ref a_toldDay) (C := RX10) (T := TX10) (N := 31) hx hb hts iX10 hown hK hP 0 rfl rfl 22 (by decide) f36 (fun _ h9 => h9) rfl dX10_tell_51 ?_
        refine lv_aload_n hx hb dX10_tell_54 rfl (lv_at hl 0 rfl) ?_
        refine va_get (D := (dC, dI)) (ci := 8) (v := .int v_told) (C := RX10) (T := TX10) (N := 31) hx hb hts iX10 hown hK hP 0 rfl rfl 20 (by decide) f136 (fun _ h9 => h9) rfl dX10_tell_55 ?_
        refine lv_iload_n hx hb dX10_tell_58 rfl (lv_at hl 2 rfl) ?_
        obtain ⟨h9, hm⟩ := gd_s hm
        refine va_iast hx hb hK hP (kb_D hD rfl) hS 2 0 rfl rfl (inB_s h9) dX10_tell_59 (fun H locs hP _ hS => ?_)
        have hP : va_P (dC, dI) vwCl [oX10 a_th (.int (0 : Int32)) q_text (.int v_textSize) (.int v_place) q_question (.int v_questionSize) (.int v_facts) (.int v_isSo) (.int v_common) (.int v_readFacts) (.int v_readSo) (.int v_readCommon) (.int v_readDay) q_page (.long v_seed) q_book q_bookSeed (.int v_acts) q_kept q_isKept (.int v_told) (.ref a_toldSimple) (.ref a_toldDay) (.ref a_toldYes) q_yesOf q_noOf q_factOf q_stack q_one q_two q_three, aI cI a_toldSimple 6 (upd v_toldSimple (Int32.toNatClampNeg v_told) p_1), aI cI a_toldDay 6 (upd v_toldDay (Int32.toNatClampNeg v_told) p_2), aI cZ a_toldYes 6 v_toldYes] H := hP
        refine lv_aload_n hx hb dX10_tell_60 rfl (lv_at hl 0 rfl) ?_
        refine va_get (D := (dC, dI)) (ci := 8) (v := .ref a_toldYes) (C := RX10) (T := TX10) (N := 31) hx hb hts iX10 hown hK hP 0 rfl rfl 23 (by decide) f39 (fun _ h9 => h9) rfl dX10_tell_61 ?_
        refine lv_aload_n hx hb dX10_tell_64 rfl (lv_at hl 0 rfl) ?_
        refine va_get (D := (dC, dI)) (ci := 8) (v := .int v_told) (C := RX10) (T := TX10) (N := 31) hx hb hts iX10 hown hK hP 0 rfl rfl 20 (by decide) f136 (fun _ h9 => h9) rfl dX10_tell_65 ?_
        refine lv_iload_n hx hb dX10_tell_68 rfl (lv_at hl 3 rfl) ?_
        obtain ⟨h10, hm⟩ := gd_s hm
        refine va_zast hx hb hK hP (kb_D hD rfl) hS 3 2 rfl rfl (inB_s h10) dX10_tell_69 (fun H locs hP _ hS => ?_)
        have hP : va_P (dC, dI) vwCl [oX10 a_th (.int (0 : Int32)) q_text (.int v_textSize) (.int v_place) q_question (.int v_questionSize) (.int v_facts) (.int v_isSo) (.int v_common) (.int v_readFacts) (.int v_readSo) (.int v_readCommon) (.int v_readDay) q_page (.long v_seed) q_book q_bookSeed (.int v_acts) q_kept q_isKept (.int v_told) (.ref a_toldSimple) (.ref a_toldDay) (.ref a_toldYes) q_yesOf q_noOf q_factOf q_stack q_one q_two q_three, aI cI a_toldSimple 6 (upd v_toldSimple (Int32.toNatClampNeg v_told) p_1), aI cI a_toldDay 6 (upd v_toldDay (Int32.toNatClampNeg v_told) p_2), aI cZ a_toldYes 6 (upd v_toldYes (Int32.toNatClampNeg v_told) (vp_nar .boolean p_3))] H := hP
        refine lv_aload_n hx hb dX10_tell_70 rfl (lv_at hl 0 rfl) ?_
        refine lv_dup hx hb dX10_tell_71 rfl ?_
        refine va_get (D := (dC, dI)) (ci := 8) (v := .int v_told) (C := RX10) (T := TX10) (N := 31) hx hb hts iX10 hown hK hP 0 rfl rfl 20 (by decide) f136 (fun _ h9 => h9) rfl dX10_tell_72 ?_
        refine lv_iconst (v := (1 : Int32)) hx hb dX10_tell_75 (by decide) ?_
        refine lv_iadd hx hb dX10_tell_76 ?_
        refine lv_topi (fun x11 ex11 => ?_)
        replace hm := nm_t ex11 hm
        refine va_put (D := (dC, dI)) (ci := 8) (v := .int x11) (ty := .int) (C := RX10) (T := TX10) (N := 31) hx hb hts iX10 tyX10 tyX10_ok nmX10 hown hK hP (kb_D hD rfl) hS 0 rfl rfl 20 (by decide) f136 (fun _ h9 => h9) rfl (by decide +kernel) rfl rfl (Nat.le_of_ble_eq_true rfl) dX10_tell_77 (fun H locs hP _ hS => ?_)
        have hP : va_P (dC, dI) vwCl [oX10 a_th (.int (0 : Int32)) q_text (.int v_textSize) (.int v_place) q_question (.int v_questionSize) (.int v_facts) (.int v_isSo) (.int v_common) (.int v_readFacts) (.int v_readSo) (.int v_readCommon) (.int v_readDay) q_page (.long v_seed) q_book q_bookSeed (.int v_acts) q_kept q_isKept (.int x11) (.ref a_toldSimple) (.ref a_toldDay) (.ref a_toldYes) q_yesOf q_noOf q_factOf q_stack q_one q_two q_three, aI cI a_toldSimple 6 (upd v_toldSimple (Int32.toNatClampNeg v_told) p_1), aI cI a_toldDay 6 (upd v_toldDay (Int32.toNatClampNeg v_told) p_2), aI cZ a_toldYes 6 (upd v_toldYes (Int32.toNatClampNeg v_told) (vp_nar .boolean p_3))] H := hP
        refine lv_aload_n hx hb dX10_tell_80 rfl (lv_at hl 0 rfl) ?_
        refine va_get (D := (dC, dI)) (ci := 8) (v := .int x11) (C := RX10) (T := TX10) (N := 31) hx hb hts iX10 hown hK hP 0 rfl rfl 20 (by decide) f136 (fun _ h9 => h9) rfl dX10_tell_81 ?_
        obtain rfl := Option.some.inj hm
        subst hQ
        exact W.iret hx hb hr (fun t ht hW => ⟨⟨_, (), rfl, rfl, kb_h hP ht⟩, hS.F ht⟩) hS.2.2 dX10_tell_84
      · replace hm := ite_t c7 hm
        refine lv_bipush (v := (-4 : Int32)) hx hb dX10_tell_37 (by decide) ?_
        obtain rfl := Option.some.inj hm
        subst hQ
        exact W.iret hx hb hr (fun t ht hW => ⟨⟨_, (), rfl, rfl, kb_h hP ht⟩, hS.F ht⟩) hS.2.2 dX10_tell_39
    · replace hm := ite_t c6 hm
      refine lv_bipush (v := (-2 : Int32)) hx hb dX10_tell_25 (by decide) ?_
      obtain rfl := Option.some.inj hm
      subst hQ
      exact W.iret hx hb hr (fun t ht hW => ⟨⟨_, (), rfl, rfl, kb_h hP ht⟩, hS.F ht⟩) hS.2.2 dX10_tell_27
