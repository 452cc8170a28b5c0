set_option maxHeartbeats 4000000 in
set_option maxRecDepth 100000 in
theorem c_X10_fact (l : Launch) (dC : Nat → ClassId) (dI : Nat → Nat → Nat) (cI cJ cZ cQ : ClassId) (t sz : Nat) (a_th : Nat) (a_page : Nat) (a_factOf : Nat) (q_text : Value) (q_question : Value) (q_book : Value) (q_bookSeed : Value) (q_kept : Value) (q_isKept : Value) (q_toldSimple : Value) (q_toldDay : Value) (q_toldYes : Value) (q_yesOf : Value) (q_noOf : Value) (q_stack : Value) (q_one : Value) (q_two : Value) (q_three : Value) (v_thrown : Int32) (v_textSize : Int32) (v_place : Int32) (v_questionSize : Int32) (v_facts : Int32) (v_isSo : Int32) (v_common : Int32) (v_readFacts : Int32) (v_readSo : Int32) (v_readCommon : Int32) (v_readDay : Int32) (v_seed : Int64) (v_acts : Int32) (v_told : Int32) (v_page : (Nat → Int32)) (v_factOf : (Nat → Int32)) (p_1 : Int32) (p_2 : Int32) (o : Int32 × Int32) (hm : m_X10_fact p_1 p_2 v_thrown v_facts v_isSo v_common v_page v_factOf = some o) : Met l yX10_fact wsX10_fact { frames := 1, cells := 0, slots := 0, locals := 25 } (va_Pc [.ref a_th, .int p_1, .int p_2] (cP (dC, dI) (kT cI cJ cZ cQ) t sz [oX10 a_th (.int v_thrown) q_text (.int v_textSize) (.int v_place) q_question (.int v_questionSize) (.int v_facts) (.int v_isSo) (.int v_common) (.int v_readFacts) (.int v_readSo) (.int v_readCommon) (.int v_readDay) (.ref a_page) (.long v_seed) q_book q_bookSeed (.int v_acts) q_kept q_isKept (.int v_told) q_toldSimple q_toldDay q_toldYes q_yesOf q_noOf (.ref a_factOf) q_stack q_one q_two q_three, aI cI a_page 12 v_page, aI cI a_factOf 5 v_factOf])) (cQi (dC, dI) (va_A [oX10 a_th (.int v_thrown) q_text (.int v_textSize) (.int v_place) q_question (.int v_questionSize) (.int v_facts) (.int v_isSo) (.int v_common) (.int v_readFacts) (.int v_readSo) (.int v_readCommon) (.int v_readDay) (.ref a_page) (.long v_seed) q_book q_bookSeed (.int v_acts) q_kept q_isKept (.int v_told) q_toldSimple q_toldDay q_toldYes q_yesOf q_noOf (.ref a_factOf) q_stack q_one q_two q_three, aI cI a_page 12 v_page, aI cI a_factOf 5 v_factOf] sz) o.1 [oX10 a_th (.int (o.2)) q_text (.int v_textSize) (.int v_place) q_question (.int v_questionSize) (.int v_facts) (.int v_isSo) (.int v_common) (.int v_readFacts) (.int v_readSo) (.int v_readCommon) (.int v_readDay) (.ref a_page) (.long v_seed) q_book q_bookSeed (.int v_acts) q_kept q_isKept (.int v_told) q_toldSimple q_toldDay q_toldYes q_yesOf q_noOf (.ref a_factOf) q_stack q_one q_two q_three, aI cI a_page 12 v_page, aI cI a_factOf 5 v_factOf]) 0 0 (va_A [oX10 a_th (.int v_thrown) q_text (.int v_textSize) (.int v_place) q_question (.int v_questionSize) (.int v_facts) (.int v_isSo) (.int v_common) (.int v_readFacts) (.int v_readSo) (.int v_readCommon) (.int v_readDay) (.ref a_page) (.long v_seed) q_book q_bookSeed (.int v_acts) q_kept q_isKept (.int v_told) q_toldSimple q_toldDay q_toldYes q_yesOf q_noOf (.ref a_factOf) q_stack q_one q_two q_three, aI cI a_page 12 v_page, aI cI a_factOf 5 v_factOf] sz) := by
  refine Met.ofW (cc := cX10_fact) (maxL := 3) (ret := (some .int)) (by decide) rfl ?_
  intro p e s m args below meth c s₁ B hml hv
  obtain ⟨rfl, hsz, hP, hK, hD0, hG⟩ := hv
  have hx := B.exec
  have hb := B.bytes
  have hr := B.returns
  have hts := atoms_spec (ws := wsX10_fact) B.pre
  have hown : s.vm.findClass RX10 = some m.cls := findClass_of_methodNamed B.named
  have hlocks := B.notSynchronized
  subst hsz
  have hD := hD0.self (sz := s.heap.size)
  generalize hAe : va_A [oX10 a_th (.int v_thrown) q_text (.int v_textSize) (.int v_place) q_question (.int v_questionSize) (.int v_facts) (.int v_isSo) (.int v_common) (.int v_readFacts) (.int v_readSo) (.int v_readCommon) (.int v_readDay) (.ref a_page) (.long v_seed) q_book q_bookSeed (.int v_acts) q_kept q_isKept (.int v_told) q_toldSimple q_toldDay q_toldYes q_yesOf q_noOf (.ref a_factOf) q_stack q_one q_two q_three, aI cI a_page 12 v_page, aI cI a_factOf 5 v_factOf] s.heap.size = A at hD hG ⊢
  have hA : ∀ q : Nat, s.heap.size ≤ q → A q := fun q h => by rw [← hAe]; exact Or.inr h
  have hS : va_S A s.heap s.heap [] := va_S.rf
  have hl := lv_entry ([.ref a_th, .int p_1, .int p_2]) (n := 3) (Nat.le_of_ble_eq_true rfl)
  rw [lg_entry_eq]
  generalize (lg_sl ([.ref a_th, .int p_1, .int p_2]) ++ List.replicate (3 - (lg_sl ([.ref a_th, .int p_1, .int p_2])).length) Slot.unset).toArray = ls at hl ⊢
  have hl : lv_has ls 3 [(0, .ref a_th), (1, .int p_1), (2, .int p_2)] := hl
  have iX10 : ∀ w ∈ wsX100, w ∈ wsX10_fact := fun _ h => List.mem_cons_of_mem _ (List.mem_append_right _ h)
  have f66 := hts (.fieldLink RX10 66 "TrueOnceWeekModel" "thrown" "I") (by decide +kernel)
  have f102 := hts (.fieldLink RX10 102 "TrueOnceWeekModel" "facts" "I") (by decide +kernel)
  have f105 := hts (.fieldLink RX10 105 "TrueOnceWeekModel" "isSo" "I") (by decide +kernel)
  have f108 := hts (.fieldLink RX10 108 "TrueOnceWeekModel" "common" "I") (by decide +kernel)
  have f16 := hts (.fieldLink RX10 16 "TrueOnceWeekModel" "page" "[I") (by decide +kernel)
  refine kb_gen (fun Q hQ => ?_)
  unfold m_X10_fact at hm
  refine lv_aload_n hx hb dX10_fact_0 rfl (lv_at hl 0 rfl) ?_
  refine lv_iconst (v := (0 : Int32)) hx hb dX10_fact_1 (by decide) ?_
  refine va_put (D := (dC, dI)) (ci := 8) (v := .int (0 : Int32)) (ty := .int) (C := RX10) (T := TX10) (N := 31) hx hb hts iX10 tyX10 tyX10_ok nmX10 hown hK hP (kb_D hD rfl) hS 0 rfl rfl 0 (by decide) f66 (fun _ h9 => h9) rfl (by decide +kernel) rfl rfl (Nat.le_of_ble_eq_true rfl) dX10_fact_2 (fun H locs hP _ hS => ?_)
  have hP : va_P (dC, dI) vwCl [oX10 a_th (.int (0 : Int32)) q_text (.int v_textSize) (.int v_place) q_question (.int v_questionSize) (.int v_facts) (.int v_isSo) (.int v_common) (.int v_readFacts) (.int v_readSo) (.int v_readCommon) (.int v_readDay) (.ref a_page) (.long v_seed) q_book q_bookSeed (.int v_acts) q_kept q_isKept (.int v_told) q_toldSimple q_toldDay q_toldYes q_yesOf q_noOf (.ref a_factOf) q_stack q_one q_two q_three, aI cI a_page 12 v_page, aI cI a_factOf 5 v_factOf] H := hP
  refine lv_iload_n hx hb dX10_fact_5 rfl (lv_at hl 1 rfl) ?_
  refine lv_i2l (v := (Int32.toInt64 p_1)) hx hb dX10_fact_6 rfl ?_
  refine lv_lconst (v := (0 : Int64)) hx hb dX10_fact_7 (by decide) ?_
  refine lv_aload_n hx hb dX10_fact_8 rfl (lv_at hl 0 rfl) ?_
  refine va_get (D := (dC, dI)) (ci := 8) (v := .int v_facts) (C := RX10) (T := TX10) (N := 31) hx hb hts iX10 hown hK hP 0 rfl rfl 6 (by decide) f102 (fun _ h9 => h9) rfl dX10_fact_9 ?_
  refine lv_iconst (v := (1 : Int32)) hx hb dX10_fact_12 (by decide) ?_
  refine lv_isub hx hb dX10_fact_13 ?_
  refine lv_i2l (v := (Int32.toInt64 (v_facts - (1 : Int32)))) hx hb dX10_fact_14 rfl ?_
  obtain ⟨r1, ho2, hm⟩ := bd1_s hm
  refine kb_calli (Rv := r1) (va_runS (As := [.long (Int32.toInt64 p_1), .long (0 : Int64), .long (Int32.toInt64 (v_facts - (1 : Int32)))]) (rest := []) ⟨hx, hb, hml, hown, hts⟩ (c_X10_in l dC dI cI cJ cZ cQ t H.size (Int32.toInt64 p_1) (0 : Int64) (Int32.toInt64 (v_facts - (1 : Int32))) (r1) ho2) (va_cwS 3 hts gX10_fact_X10_in rfl rfl rfl (by decide +kernel) ⟨(Nat.le_of_ble_eq_true rfl), (Nat.le_of_ble_eq_true rfl)⟩) (kb_pre hK hG hP (kb_D hD rfl) hS hA [] rfl (by decide)) rfl rfl hl.1 rfl (lv_room (Nat.le_of_ble_eq_true rfl)) dX10_fact_15 ⟨Nat.zero_le _, Nat.zero_le _⟩) hP (kb_D hD rfl) hS hA [] rfl [(false, 0), (false, 1), (false, 2)] (w2 := [oX10 a_th (.int (0 : Int32)) q_text (.int v_textSize) (.int v_place) q_question (.int v_questionSize) (.int v_facts) (.int v_isSo) (.int v_common) (.int v_readFacts) (.int v_readSo) (.int v_readCommon) (.int v_readDay) (.ref a_page) (.long v_seed) q_book q_bookSeed (.int v_acts) q_kept q_isKept (.int v_told) q_toldSimple q_toldDay q_toldYes q_yesOf q_noOf (.ref a_factOf) q_stack q_one q_two q_three, aI cI a_page 12 v_page, aI cI a_factOf 5 v_factOf]) rfl (by decide) (fun H locs hP hS => ?_)
  refine lv_if_ne (tgt := 23) hx hb dX10_fact_18 (by decide) (fun c3 => ?_) (fun c3 => ?_)
  · replace hm := ite_f c3 hm
    refine lv_iload_n hx hb dX10_fact_23 rfl (lv_at hl 2 rfl) ?_
    rcases Decidable.em (p_2 = (0 : Int32)) with c4 | c4
    · replace hm := ite_t c4 hm
      refine lv_tableIn (tgt := 52) hx hb dX10_fact_24 (by rw [c4]; decide) (by rw [c4]; decide) (by rw [c4]; rfl) (by decide) ?_
      refine lv_aload_n hx hb dX10_fact_52 rfl (lv_at hl 0 rfl) ?_
      refine va_get (D := (dC, dI)) (ci := 8) (v := .int v_isSo) (C := RX10) (T := TX10) (N := 31) hx hb hts iX10 hown hK hP 0 rfl rfl 7 (by decide) f105 (fun _ h9 => h9) rfl dX10_fact_53 ?_
      refine lv_iload_n hx hb dX10_fact_56 rfl (lv_at hl 1 rfl) ?_
      refine lv_ishr hx hb dX10_fact_57 ?_
      refine lv_iconst (v := (1 : Int32)) hx hb dX10_fact_58 (by decide) ?_
      refine lv_iand hx hb dX10_fact_59 ?_
      obtain rfl := Option.some.inj hm
      subst hQ
      exact W.iret hx hb hr (fun t ht hW => ⟨⟨_, (), rfl, rfl, kb_h hP ht⟩, hS.F ht⟩) hS.2.2 dX10_fact_60
    replace hm := ite_f c4 hm
    rcases Decidable.em (p_2 = (1 : Int32)) with c5 | c5
    · replace hm := ite_t c5 hm
      refine lv_tableIn (tgt := 61) hx hb dX10_fact_24 (by rw [c5]; decide) (by rw [c5]; decide) (by rw [c5]; rfl) (by decide) ?_
      refine lv_aload_n hx hb dX10_fact_61 rfl (lv_at hl 0 rfl) ?_
      refine va_get (D := (dC, dI)) (ci := 8) (v := .int v_common) (C := RX10) (T := TX10) (N := 31) hx hb hts iX10 hown hK hP 0 rfl rfl 8 (by decide) f108 (fun _ h9 => h9) rfl dX10_fact_62 ?_
      refine lv_iload_n hx hb dX10_fact_65 rfl (lv_at hl 1 rfl) ?_
      refine lv_ishr hx hb dX10_fact_66 ?_
      refine lv_iconst (v := (1 : Int32)) hx hb dX10_fact_67 (by decide) ?_
      refine lv_iand hx hb dX10_fact_68 ?_
      obtain rfl := Option.some.inj hm
      subst hQ
      exact W.iret hx hb hr (fun t ht hW => ⟨⟨_, (), rfl, rfl, kb_h hP ht⟩, hS.F ht⟩) hS.2.2 dX10_fact_69
    replace hm := ite_f c5 hm
    rcases Decidable.em (p_2 = (2 : Int32)) with c6 | c6
    · replace hm := ite_t c6 hm
      refine lv_tableIn (tgt := 70) hx hb dX10_fact_24 (by rw [c6]; decide) (by rw [c6]; decide) (by rw [c6]; rfl) (by decide) ?_
      refine lv_aload_n hx hb dX10_fact_70 rfl (lv_at hl 0 rfl) ?_
      refine lv_aload_n hx hb dX10_fact_71 rfl (lv_at hl 0 rfl) ?_
      refine va_get (D := (dC, dI)) (ci := 8) (v := .ref a_page) (C := RX10) (T := TX10) (N := 31) hx hb hts iX10 hown hK hP 0 rfl rfl 13 (by decide) f16 (fun _ h9 => h9) rfl dX10_fact_72 ?_
      refine lv_iload_n hx hb dX10_fact_75 rfl (lv_at hl 1 rfl) ?_
      obtain ⟨r7, ho8, hm⟩ := bd1_s hm
      refine kb_calli (Rv := r7) (va_runV (As := [.ref a_page, .int p_1]) (rest := []) ⟨hx, hb, hml, hown, hts⟩ (c_X10_tellsFact l dC dI cI cJ cZ cQ t H.size a_th a_page a_factOf 12 q_text q_question (.ref a_page) q_book q_bookSeed q_kept q_isKept q_toldSimple q_toldDay q_toldYes q_yesOf q_noOf q_stack q_one q_two q_three (0 : Int32) v_textSize v_place v_questionSize v_facts v_isSo v_common v_readFacts v_readSo v_readCommon v_readDay v_seed v_acts v_told v_page v_factOf p_1 (r7) ho8) (cwV 2 hts gX10_fact_X10_tellsFact rfl rfl rfl (by decide +kernel) ⟨(Nat.le_of_ble_eq_true rfl), (Nat.le_of_ble_eq_true rfl)⟩) ⟨(kb_pre hK hG hP (kb_D hD rfl) hS hA [0, 1, 2] rfl (by decide)).1, (va_recv hK hP (ci := 8) (q0 := 0) rfl rfl), (kb_pre hK hG hP (kb_D hD rfl) hS hA [0, 1, 2] rfl (by decide)).2⟩ rfl rfl hl.1 rfl (lv_room (Nat.le_of_ble_eq_true rfl)) dX10_fact_76 ⟨Nat.zero_le _, Nat.zero_le _⟩) hP (kb_D hD rfl) hS hA [0, 1, 2] rfl [(true, 0), (true, 1), (true, 2)] (w2 := [oX10 a_th (.int (0 : Int32)) q_text (.int v_textSize) (.int v_place) q_question (.int v_questionSize) (.int v_facts) (.int v_isSo) (.int v_common) (.int v_readFacts) (.int v_readSo) (.int v_readCommon) (.int v_readDay) (.ref a_page) (.long v_seed) q_book q_bookSeed (.int v_acts) q_kept q_isKept (.int v_told) q_toldSimple q_toldDay q_toldYes q_yesOf q_noOf (.ref a_factOf) q_stack q_one q_two q_three, aI cI a_page 12 v_page, aI cI a_factOf 5 v_factOf]) rfl (by decide) (fun H locs hP hS => ?_)
      obtain rfl := Option.some.inj hm
      subst hQ
      exact W.iret hx hb hr (fun t ht hW => ⟨⟨_, (), rfl, rfl, kb_h hP ht⟩, hS.F ht⟩) hS.2.2 dX10_fact_79
    replace hm := ite_f c6 hm
    have tc4 := lv_neT (a := 0) c4 (by decide)
    have tc5 := lv_neT (a := 1) c5 (by decide)
    have tc6 := lv_neT (a := 2) c6 (by decide)
    refine lv_tableOut (tgt := 80) hx hb dX10_fact_24 (by omega) (by decide) ?_
    refine lv_bipush (v := (-2 : Int32)) hx hb dX10_fact_80 (by decide) ?_
    obtain rfl := Option.some.inj hm
    subst hQ
    exact W.iret hx hb hr (fun t ht hW => ⟨⟨_, (), rfl, rfl, kb_h hP ht⟩, hS.F ht⟩) hS.2.2 dX10_fact_82
  · replace hm := ite_t c3 hm
    refine lv_iconst (v := (-1 : Int32)) hx hb dX10_fact_21 (by decide) ?_
    obtain rfl := Option.some.inj hm
    subst hQ
    exact W.iret hx hb hr (fun t ht hW => ⟨⟨_, (), rfl, rfl, kb_h hP ht⟩, hS.F ht⟩) hS.2.2 dX10_fact_22
set_option maxHeartbeats 4000000 in
set_option maxRecDepth 100000 in
theorem c_X10_note (l : Launch) (dC : Nat → ClassId) (dI : Nat → Nat → Nat) (cI cJ cZ cQ : ClassId) (t sz : Nat) (a_th : Nat) (a_book : Nat) (a_page : Nat) (a_bookSeed : Nat) (q_text : Value) (q_question : Value) (q_kept : Value) (q_isKept : Value) (q_toldSimple : Value) (q_toldDay : Value) (q_toldYes : Value) (q_yesOf : Value) (q_noOf : Value) (q_factOf : Value) (q_stack : Value) (q_one : Value) (q_two : Value) (q_three : Value) (v_thrown : Int32) (v_textSize : Int32) (v_place : Int32) (v_questionSize : Int32) (v_facts : Int32) (v_isSo : Int32) (v_common : Int32) (v_readFacts : Int32) (v_readSo : Int32) (v_readCommon : Int32) (v_readDay : Int32) (v_seed : Int64) (v_acts : Int32) (v_told : Int32) (v_book : (Nat → Int32)) (v_page : (Nat → Int32)) (v_bookSeed : (Nat → Int64)) (o : Int32 × (Nat → Int32) × (Nat → Int64)) (hm : m_X10_note v_seed v_acts v_book v_page v_bookSeed = some o) : Met l yX10_note wsX10_note { frames := 0, cells := 0, slots := 0, locals := 0 } (va_Pc [.ref a_th] (cP (dC, dI) (kT cI cJ cZ cQ) t sz [oX10 a_th (.int v_thrown) q_text (.int v_textSize) (.int v_place) q_question (.int v_questionSize) (.int v_facts) (.int v_isSo) (.int v_common) (.int v_readFacts) (.int v_readSo) (.int v_readCommon) (.int v_readDay) (.ref a_page) (.long v_seed) (.ref a_book) (.ref a_bookSeed) (.int v_acts) q_kept q_isKept (.int v_told) q_toldSimple q_toldDay q_toldYes q_yesOf q_noOf q_factOf q_stack q_one q_two q_three, aI cI a_book 120 v_book, aI cI a_page 12 v_page, aJ cJ a_bookSeed 10 v_bookSeed])) (cQv (dC, dI) (va_A [oX10 a_th (.int v_thrown) q_text (.int v_textSize) (.int v_place) q_question (.int v_questionSize) (.int v_facts) (.int v_isSo) (.int v_common) (.int v_readFacts) (.int v_readSo) (.int v_readCommon) (.int v_readDay) (.ref a_page) (.long v_seed) (.ref a_book) (.ref a_bookSeed) (.int v_acts) q_kept q_isKept (.int v_told) q_toldSimple q_toldDay q_toldYes q_yesOf q_noOf q_factOf q_stack q_one q_two q_three, aI cI a_book 120 v_book, aI cI a_page 12 v_page, aJ cJ a_bookSeed 10 v_bookSeed] sz) [oX10 a_th (.int v_thrown) q_text (.int v_textSize) (.int v_place) q_question (.int v_questionSize) (.int v_facts) (.int v_isSo) (.int v_common) (.int v_readFacts) (.int v_readSo) (.int v_readCommon) (.int v_readDay) (.ref a_page) (.long v_seed) (.ref a_book) (.ref a_bookSeed) (.int (o.1)) q_kept q_isKept (.int v_told) q_toldSimple q_toldDay q_toldYes q_yesOf q_noOf q_factOf q_stack q_one q_two q_three, aI cI a_book 120 (o.2.1), aI cI a_page 12 v_page, aJ cJ a_bookSeed 10 (o.2.2)]) 0 0 (va_A [oX10 a_th (.int v_thrown) q_text (.int v_textSize) (.int v_place) q_question (.int v_questionSize) (.int v_facts) (.int v_isSo) (.int v_common) (.int v_readFacts) (.int v_readSo) (.int v_readCommon) (.int v_readDay) (.ref a_page) (.long v_seed) (.ref a_book) (.ref a_bookSeed) (.int v_acts) q_kept q_isKept (.int v_told) q_toldSimple q_toldDay q_toldYes q_yesOf q_noOf q_factOf q_stack q_one q_two q_three, aI cI a_book 120 v_book, aI cI a_page 12 v_page, aJ cJ a_bookSeed 10 v_bookSeed] sz) := by
  refine Met.ofW (cc := cX10_note) (maxL := 2) (ret := none) (by decide) rfl ?_
  intro p e s m args below meth c s₁ B hml hv
  obtain ⟨rfl, hsz, hP, hK, hD0, hG⟩ := hv
  have hx := B.exec
  have hb := B.bytes
  have hr := B.returns
  have hts := atoms_spec (ws := wsX10_note) B.pre
  have hown : s.vm.findClass RX10 = some m.cls := findClass_of_methodNamed B.named
  have hlocks := B.notSynchronized
  subst hsz
  have hD := hD0.self (sz := s.heap.size)
  generalize hAe : va_A [oX10 a_th (.int v_thrown) q_text (.int v_textSize) (.int v_place) q_question (.int v_questionSize) (.int v_facts) (.int v_isSo) (.int v_common) (.int v_readFacts) (.int v_readSo) (.int v_readCommon) (.int v_readDay) (.ref a_page) (.long v_seed) (.ref a_book) (.ref a_bookSeed) (.int v_acts) q_kept q_isKept (.int v_told) q_toldSimple q_toldDay q_toldYes q_yesOf q_noOf q_factOf q_stack q_one q_two q_three, aI cI a_book 120 v_book, aI cI a_page 12 v_page, aJ cJ a_bookSeed 10 v_bookSeed] s.heap.size = A at hD hG ⊢
  have hA : ∀ q : Nat, s.heap.size ≤ q → A q := fun q h => by rw [← hAe]; exact Or.inr h
  have hS : va_S A s.heap s.heap [] := va_S.rf
  have hl := lv_entry ([.ref a_th]) (n := 2) (Nat.le_of_ble_eq_true rfl)
  rw [lg_entry_eq]
  generalize (lg_sl ([.ref a_th]) ++ List.replicate (2 - (lg_sl ([.ref a_th])).length) Slot.unset).toArray = ls at hl ⊢
  have hl : lv_has ls 2 [(0, .ref a_th)] := hl
  have iX10 : ∀ w ∈ wsX100, w ∈ wsX10_note := fun _ h => List.mem_cons_of_mem _ (List.mem_append_right _ h)
  have f114 := hts (.fieldLink RX10 114 "TrueOnceWeekModel" "acts" "I") (by decide +kernel)
  have f19 := hts (.fieldLink RX10 19 "TrueOnceWeekModel" "book" "[I") (by decide +kernel)
  have f16 := hts (.fieldLink RX10 16 "TrueOnceWeekModel" "page" "[I") (by decide +kernel)
  have f22 := hts (.fieldLink RX10 22 "TrueOnceWeekModel" "bookSeed" "[J") (by decide +kernel)
  have f168 := hts (.fieldLink RX10 168 "TrueOnceWeekModel" "seed" "J") (by decide +kernel)
  refine kb_gen (fun Q hQ => ?_)
  unfold m_X10_note at hm
  refine lv_aload_n hx hb dX10_note_0 rfl (lv_at hl 0 rfl) ?_
  refine va_get (D := (dC, dI)) (ci := 8) (v := .int v_acts) (C := RX10) (T := TX10) (N := 31) hx hb hts iX10 hown hK hP 0 rfl rfl 17 (by decide) f114 (fun _ h9 => h9) rfl dX10_note_1 ?_
  refine lv_bipush (v := (10 : Int32)) hx hb dX10_note_4 (by decide) ?_
  obtain ⟨k76, ek76, hm⟩ := nm_s hm
  have J76 : ∀ (w1 : Int32) (w2 : (Nat → Int32)) (w3 : (Nat → Int64)) (H : Heap) (locs : List Loc) (ls : Array Slot), k76 w1 w2 w3 = some o → va_P (dC, dI) vwCl [oX10 a_th (.int v_thrown) q_text (.int v_textSize) (.int v_place) q_question (.int v_questionSize) (.int v_facts) (.int v_isSo) (.int v_common) (.int v_readFacts) (.int v_readSo) (.int v_readCommon) (.int v_readDay) (.ref a_page) (.long v_seed) (.ref a_book) (.ref a_bookSeed) (.int w1) q_kept q_isKept (.int v_told) q_toldSimple q_toldDay q_toldYes q_yesOf q_noOf q_factOf q_stack q_one q_two q_three, aI cI a_book 120 w2, aI cI a_page 12 v_page, aJ cJ a_bookSeed 10 w3] H → va_S A s.heap H locs → lv_has ls 2 [(0, .ref a_th)] → W p l e (headSpec wsX10_note { frames := 0, cells := 0, slots := 0, locals := 0 }).room s m [.ref a_th].toArray below meth c H locs 0 0 Q (F0 m 76 ls []) := by
    intro w1 w2 w3 H locs ls hm hP hS hl
    rw [ek76] at hm
    refine lv_iconst (v := (0 : Int32)) hx hb dX10_note_76 (by decide) ?_
    refine lv_istore_n (lv' := [(1, .int (0 : Int32)), (0, .ref a_th)]) hx hb dX10_note_77 rfl hl (by decide) rfl (fun ls hl => ?_)
    have lp78 : ∀ (n78 : Nat) (x4 : Int32) (w5 : (Nat → Int32)) (k78 : (Nat → Int32) → Option (Int32 × (Nat → Int32) × (Nat → Int64))) (H : Heap) (locs : List Loc) (ls : Array Slot), L_X10_note_78 v_page w1 n78 x4 w5 k78 = some o → (∀ (w6 : (Nat → Int32)) (H : Heap) (locs : List Loc) (ls : Array Slot), k78 w6 = some o → va_P (dC, dI) vwCl [oX10 a_th (.int v_thrown) q_text (.int v_textSize) (.int v_place) q_question (.int v_questionSize) (.int v_facts) (.int v_isSo) (.int v_common) (.int v_readFacts) (.int v_readSo) (.int v_readCommon) (.int v_readDay) (.ref a_page) (.long v_seed) (.ref a_book) (.ref a_bookSeed) (.int w1) q_kept q_isKept (.int v_told) q_toldSimple q_toldDay q_toldYes q_yesOf q_noOf q_factOf q_stack q_one q_two q_three, aI cI a_book 120 w6, aI cI a_page 12 v_page, aJ cJ a_bookSeed 10 w3] H → va_S A s.heap H locs → lv_has ls 2 [(0, .ref a_th)] → W p l e (headSpec wsX10_note { frames := 0, cells := 0, slots := 0, locals := 0 }).room s m [.ref a_th].toArray below meth c H locs 0 0 Q (F0 m 110 ls [])) → va_P (dC, dI) vwCl [oX10 a_th (.int v_thrown) q_text (.int v_textSize) (.int v_place) q_question (.int v_questionSize) (.int v_facts) (.int v_isSo) (.int v_common) (.int v_readFacts) (.int v_readSo) (.int v_readCommon) (.int v_readDay) (.ref a_page) (.long v_seed) (.ref a_book) (.ref a_bookSeed) (.int w1) q_kept q_isKept (.int v_told) q_toldSimple q_toldDay q_toldYes q_yesOf q_noOf q_factOf q_stack q_one q_two q_three, aI cI a_book 120 w5, aI cI a_page 12 v_page, aJ cJ a_bookSeed 10 w3] H → va_S A s.heap H locs → lv_has ls 2 [(0, .ref a_th), (1, .int x4)] → W p l e (headSpec wsX10_note { frames := 0, cells := 0, slots := 0, locals := 0 }).room s m [.ref a_th].toArray below meth c H locs 0 0 Q (F0 m 78 ls []) := by
      intro n78
      induction n78 with
      | zero =>
        intro x4 w5 k78 H locs ls hm
        cases (show (none : Option (Int32 × (Nat → Int32) × (Nat → Int64))) = some o from hm)
      | succ n78 ih78 =>
        intro x4 w5 k78 H locs ls hm hk78 hP hS hl
        rw [L_X10_note_78.eq_2] at hm
        refine lv_iload_n hx hb dX10_note_78 rfl (lv_at hl 1 rfl) ?_
        refine lv_bipush (v := (12 : Int32)) hx hb dX10_note_79 (by decide) ?_
        refine lv_icmp_ge (tgt := 110) hx hb dX10_note_81 (by decide) (fun c7 => ?_) (fun c7 => ?_)
        · replace hm := ite_t c7 hm
          exact hk78 w5 _ _ _ hm hP hS (lv_sub hl [0] rfl)
        · replace hm := ite_f c7 hm
          refine lv_aload_n hx hb dX10_note_84 rfl (lv_at hl 0 rfl) ?_
          refine va_get (D := (dC, dI)) (ci := 8) (v := .ref a_book) (C := RX10) (T := TX10) (N := 31) hx hb hts iX10 hown hK hP 0 rfl rfl 15 (by decide) f19 (fun _ h9 => h9) rfl dX10_note_85 ?_
          refine lv_bipush (v := (12 : Int32)) hx hb dX10_note_88 (by decide) ?_
          refine lv_aload_n hx hb dX10_note_90 rfl (lv_at hl 0 rfl) ?_
          refine va_get (D := (dC, dI)) (ci := 8) (v := .int w1) (C := RX10) (T := TX10) (N := 31) hx hb hts iX10 hown hK hP 0 rfl rfl 17 (by decide) f114 (fun _ h9 => h9) rfl dX10_note_91 ?_
          refine lv_imul hx hb dX10_note_94 ?_
          refine lv_iload_n hx hb dX10_note_95 rfl (lv_at hl 1 rfl) ?_
          refine lv_iadd hx hb dX10_note_96 ?_
          refine lv_aload_n hx hb dX10_note_97 rfl (lv_at hl 0 rfl) ?_
          refine va_get (D := (dC, dI)) (ci := 8) (v := .ref a_page) (C := RX10) (T := TX10) (N := 31) hx hb hts iX10 hown hK hP 0 rfl rfl 13 (by decide) f16 (fun _ h9 => h9) rfl dX10_note_98 ?_
          refine lv_iload_n hx hb dX10_note_101 rfl (lv_at hl 1 rfl) ?_
          obtain ⟨h8, hm⟩ := gd_s hm
          refine va_iald hx hb hK hP 2 0 rfl rfl (inB_s h8) dX10_note_102 ?_
          obtain ⟨h9, hm⟩ := gd_s hm
          refine va_iast hx hb hK hP (kb_D hD rfl) hS 1 0 rfl rfl (inB_s h9) dX10_note_103 (fun H locs hP _ hS => ?_)
          have hP : va_P (dC, dI) vwCl [oX10 a_th (.int v_thrown) q_text (.int v_textSize) (.int v_place) q_question (.int v_questionSize) (.int v_facts) (.int v_isSo) (.int v_common) (.int v_readFacts) (.int v_readSo) (.int v_readCommon) (.int v_readDay) (.ref a_page) (.long v_seed) (.ref a_book) (.ref a_bookSeed) (.int w1) q_kept q_isKept (.int v_told) q_toldSimple q_toldDay q_toldYes q_yesOf q_noOf q_factOf q_stack q_one q_two q_three, aI cI a_book 120 (upd w5 (Int32.toNatClampNeg (((12 : Int32) * w1) + x4)) (v_page (Int32.toNatClampNeg x4))), aI cI a_page 12 v_page, aJ cJ a_bookSeed 10 w3] H := hP
          obtain ⟨x10, ex10⟩ : ∃ y : Int32, y = x4 + (1 : Int32) := ⟨_, rfl⟩
          replace hm := nm_t ex10 hm
          refine lv_iinc (v := x10) (lv' := [(1, .int x10), (0, .ref a_th)]) hx hb dX10_note_104 hl (k := 1) rfl (by rw [ex10]; rfl) (by decide) rfl (fun ls hl => ?_)
          refine lv_goto (tgt := 78) hx hb dX10_note_107 (by decide) ?_
          exact ih78 x10 (upd w5 (Int32.toNatClampNeg (((12 : Int32) * w1) + x4)) (v_page (Int32.toNatClampNeg x4))) k78 _ _ _ hm hk78 hP hS (lv_sub hl [1, 0] rfl)
    refine lp78 1024 (0 : Int32) w2 _ _ _ _ hm (fun w6 H locs ls hm hP hS hl => ?_) hP hS (lv_sub hl [1, 0] rfl)
    refine lv_aload_n hx hb dX10_note_110 rfl (lv_at hl 0 rfl) ?_
    refine va_get (D := (dC, dI)) (ci := 8) (v := .ref a_bookSeed) (C := RX10) (T := TX10) (N := 31) hx hb hts iX10 hown hK hP 0 rfl rfl 16 (by decide) f22 (fun _ h9 => h9) rfl dX10_note_111 ?_
    refine lv_aload_n hx hb dX10_note_114 rfl (lv_at hl 0 rfl) ?_
    refine va_get (D := (dC, dI)) (ci := 8) (v := .int w1) (C := RX10) (T := TX10) (N := 31) hx hb hts iX10 hown hK hP 0 rfl rfl 17 (by decide) f114 (fun _ h9 => h9) rfl dX10_note_115 ?_
    refine lv_aload_n hx hb dX10_note_118 rfl (lv_at hl 0 rfl) ?_
    refine va_get (D := (dC, dI)) (ci := 8) (v := .long v_seed) (C := RX10) (T := TX10) (N := 31) hx hb hts iX10 hown hK hP 0 rfl rfl 14 (by decide) f168 (fun _ h9 => h9) rfl dX10_note_119 ?_
    obtain ⟨h11, hm⟩ := gd_s hm
    refine va_last hx hb hK hP (kb_D hD rfl) hS 3 1 rfl rfl (inB_s h11) dX10_note_122 (fun H locs hP _ hS => ?_)
    have hP : va_P (dC, dI) vwCl [oX10 a_th (.int v_thrown) q_text (.int v_textSize) (.int v_place) q_question (.int v_questionSize) (.int v_facts) (.int v_isSo) (.int v_common) (.int v_readFacts) (.int v_readSo) (.int v_readCommon) (.int v_readDay) (.ref a_page) (.long v_seed) (.ref a_book) (.ref a_bookSeed) (.int w1) q_kept q_isKept (.int v_told) q_toldSimple q_toldDay q_toldYes q_yesOf q_noOf q_factOf q_stack q_one q_two q_three, aI cI a_book 120 w6, aI cI a_page 12 v_page, aJ cJ a_bookSeed 10 (vp_updL w3 (Int32.toNatClampNeg w1) v_seed)] H := hP
    refine lv_aload_n hx hb dX10_note_123 rfl (lv_at hl 0 rfl) ?_
    refine lv_dup hx hb dX10_note_124 rfl ?_
    refine va_get (D := (dC, dI)) (ci := 8) (v := .int w1) (C := RX10) (T := TX10) (N := 31) hx hb hts iX10 hown hK hP 0 rfl rfl 17 (by decide) f114 (fun _ h9 => h9) rfl dX10_note_125 ?_
    refine lv_iconst (v := (1 : Int32)) hx hb dX10_note_128 (by decide) ?_
    refine lv_iadd hx hb dX10_note_129 ?_
    refine lv_topi (fun x12 ex12 => ?_)
    replace hm := nm_t ex12 hm
    refine va_put (D := (dC, dI)) (ci := 8) (v := .int x12) (ty := .int) (C := RX10) (T := TX10) (N := 31) hx hb hts iX10 tyX10 tyX10_ok nmX10 hown hK hP (kb_D hD rfl) hS 0 rfl rfl 17 (by decide) f114 (fun _ h9 => h9) rfl (by decide +kernel) rfl rfl (Nat.le_of_ble_eq_true rfl) dX10_note_130 (fun H locs hP _ hS => ?_)
    have hP : va_P (dC, dI) vwCl [oX10 a_th (.int v_thrown) q_text (.int v_textSize) (.int v_place) q_question (.int v_questionSize) (.int v_facts) (.int v_isSo) (.int v_common) (.int v_readFacts) (.int v_readSo) (.int v_readCommon) (.int v_readDay) (.ref a_page) (.long v_seed) (.ref a_book) (.ref a_bookSeed) (.int x12) q_kept q_isKept (.int v_told) q_toldSimple q_toldDay q_toldYes q_yesOf q_noOf q_factOf q_stack q_one q_two q_three, aI cI a_book 120 w6, aI cI a_page 12 v_page, aJ cJ a_bookSeed 10 (vp_updL w3 (Int32.toNatClampNeg w1) v_seed)] H := hP
    obtain rfl := Option.some.inj hm
    subst hQ
    exact W.vret hx hb hr (fun t ht hW => ⟨⟨(), rfl, trivial, kb_h hP ht⟩, hS.F ht⟩) hS.2.2 dX10_note_133
  refine lv_icmp_ne (tgt := 76) hx hb dX10_note_6 (by decide) (fun c13 => ?_) (fun c13 => ?_)
  · replace hm := ite_f c13 hm
    exact J76 v_acts v_book v_bookSeed _ _ _ hm hP hS (lv_sub hl [0] rfl)
  · replace hm := ite_t c13 hm
    refine lv_iconst (v := (0 : Int32)) hx hb dX10_note_9 (by decide) ?_
    refine lv_istore_n (lv' := [(1, .int (0 : Int32)), (0, .ref a_th)]) hx hb dX10_note_10 rfl hl (by decide) rfl (fun ls hl => ?_)
    have lp11 : ∀ (n11 : Nat) (x14 : Int32) (w15 : (Nat → Int32)) (k11 : (Nat → Int32) → Option (Int32 × (Nat → Int32) × (Nat → Int64))) (H : Heap) (locs : List Loc) (ls : Array Slot), L_X10_note_11 n11 x14 w15 k11 = some o → (∀ (w16 : (Nat → Int32)) (H : Heap) (locs : List Loc) (ls : Array Slot), k11 w16 = some o → va_P (dC, dI) vwCl [oX10 a_th (.int v_thrown) q_text (.int v_textSize) (.int v_place) q_question (.int v_questionSize) (.int v_facts) (.int v_isSo) (.int v_common) (.int v_readFacts) (.int v_readSo) (.int v_readCommon) (.int v_readDay) (.ref a_page) (.long v_seed) (.ref a_book) (.ref a_bookSeed) (.int v_acts) q_kept q_isKept (.int v_told) q_toldSimple q_toldDay q_toldYes q_yesOf q_noOf q_factOf q_stack q_one q_two q_three, aI cI a_book 120 w16, aI cI a_page 12 v_page, aJ cJ a_bookSeed 10 v_bookSeed] H → va_S A s.heap H locs → lv_has ls 2 [(0, .ref a_th)] → W p l e (headSpec wsX10_note { frames := 0, cells := 0, slots := 0, locals := 0 }).room s m [.ref a_th].toArray below meth c H locs 0 0 Q (F0 m 38 ls [])) → va_P (dC, dI) vwCl [oX10 a_th (.int v_thrown) q_text (.int v_textSize) (.int v_place) q_question (.int v_questionSize) (.int v_facts) (.int v_isSo) (.int v_common) (.int v_readFacts) (.int v_readSo) (.int v_readCommon) (.int v_readDay) (.ref a_page) (.long v_seed) (.ref a_book) (.ref a_bookSeed) (.int v_acts) q_kept q_isKept (.int v_told) q_toldSimple q_toldDay q_toldYes q_yesOf q_noOf q_factOf q_stack q_one q_two q_three, aI cI a_book 120 w15, aI cI a_page 12 v_page, aJ cJ a_bookSeed 10 v_bookSeed] H → va_S A s.heap H locs → lv_has ls 2 [(0, .ref a_th), (1, .int x14)] → W p l e (headSpec wsX10_note { frames := 0, cells := 0, slots := 0, locals := 0 }).room s m [.ref a_th].toArray below meth c H locs 0 0 Q (F0 m 11 ls []) := by
      intro n11
      induction n11 with
      | zero =>
        intro x14 w15 k11 H locs ls hm
        cases (show (none : Option (Int32 × (Nat → Int32) × (Nat → Int64))) = some o from hm)
      | succ n11 ih11 =>
        intro x14 w15 k11 H locs ls hm hk11 hP hS hl
        rw [L_X10_note_11.eq_2] at hm
        refine lv_iload_n hx hb dX10_note_11 rfl (lv_at hl 1 rfl) ?_
        refine lv_bipush (v := (108 : Int32)) hx hb dX10_note_12 (by decide) ?_
        refine lv_icmp_ge (tgt := 38) hx hb dX10_note_14 (by decide) (fun c17 => ?_) (fun c17 => ?_)
        · replace hm := ite_t c17 hm
          exact hk11 w15 _ _ _ hm hP hS (lv_sub hl [0] rfl)
        · replace hm := ite_f c17 hm
          refine lv_aload_n hx hb dX10_note_17 rfl (lv_at hl 0 rfl) ?_
          refine va_get (D := (dC, dI)) (ci := 8) (v := .ref a_book) (C := RX10) (T := TX10) (N := 31) hx hb hts iX10 hown hK hP 0 rfl rfl 15 (by decide) f19 (fun _ h9 => h9) rfl dX10_note_18 ?_
          refine lv_iload_n hx hb dX10_note_21 rfl (lv_at hl 1 rfl) ?_
          refine lv_aload_n hx hb dX10_note_22 rfl (lv_at hl 0 rfl) ?_
          refine va_get (D := (dC, dI)) (ci := 8) (v := .ref a_book) (C := RX10) (T := TX10) (N := 31) hx hb hts iX10 hown hK hP 0 rfl rfl 15 (by decide) f19 (fun _ h9 => h9) rfl dX10_note_23 ?_
          refine lv_iload_n hx hb dX10_note_26 rfl (lv_at hl 1 rfl) ?_
          refine lv_bipush (v := (12 : Int32)) hx hb dX10_note_27 (by decide) ?_
          refine lv_iadd hx hb dX10_note_29 ?_
          obtain ⟨h18, hm⟩ := gd_s hm
          refine va_iald hx hb hK hP 1 0 rfl rfl (inB_s h18) dX10_note_30 ?_
          obtain ⟨h19, hm⟩ := gd_s hm
          refine va_iast hx hb hK hP (kb_D hD rfl) hS 1 0 rfl rfl (inB_s h19) dX10_note_31 (fun H locs hP _ hS => ?_)
          have hP : va_P (dC, dI) vwCl [oX10 a_th (.int v_thrown) q_text (.int v_textSize) (.int v_place) q_question (.int v_questionSize) (.int v_facts) (.int v_isSo) (.int v_common) (.int v_readFacts) (.int v_readSo) (.int v_readCommon) (.int v_readDay) (.ref a_page) (.long v_seed) (.ref a_book) (.ref a_bookSeed) (.int v_acts) q_kept q_isKept (.int v_told) q_toldSimple q_toldDay q_toldYes q_yesOf q_noOf q_factOf q_stack q_one q_two q_three, aI cI a_book 120 (upd w15 (Int32.toNatClampNeg x14) (w15 (Int32.toNatClampNeg (x14 + (12 : Int32))))), aI cI a_page 12 v_page, aJ cJ a_bookSeed 10 v_bookSeed] H := hP
          obtain ⟨x20, ex20⟩ : ∃ y : Int32, y = x14 + (1 : Int32) := ⟨_, rfl⟩
          replace hm := nm_t ex20 hm
          refine lv_iinc (v := x20) (lv' := [(1, .int x20), (0, .ref a_th)]) hx hb dX10_note_32 hl (k := 1) rfl (by rw [ex20]; rfl) (by decide) rfl (fun ls hl => ?_)
          refine lv_goto (tgt := 11) hx hb dX10_note_35 (by decide) ?_
          exact ih11 x20 (upd w15 (Int32.toNatClampNeg x14) (w15 (Int32.toNatClampNeg (x14 + (12 : Int32))))) k11 _ _ _ hm hk11 hP hS (lv_sub hl [1, 0] rfl)
    refine lp11 1024 (0 : Int32) v_book _ _ _ _ hm (fun w16 H locs ls hm hP hS hl => ?_) hP hS (lv_sub hl [1, 0] rfl)
    refine lv_iconst (v := (0 : Int32)) hx hb dX10_note_38 (by decide) ?_
    refine lv_istore_n (lv' := [(1, .int (0 : Int32)), (0, .ref a_th)]) hx hb dX10_note_39 rfl hl (by decide) rfl (fun ls hl => ?_)
    have lp40 : ∀ (n40 : Nat) (x21 : Int32) (w22 : (Nat → Int64)) (k40 : (Nat → Int64) → Option (Int32 × (Nat → Int32) × (Nat → Int64))) (H : Heap) (locs : List Loc) (ls : Array Slot), L_X10_note_40 n40 x21 w22 k40 = some o → (∀ (w23 : (Nat → Int64)) (H : Heap) (locs : List Loc) (ls : Array Slot), k40 w23 = some o → va_P (dC, dI) vwCl [oX10 a_th (.int v_thrown) q_text (.int v_textSize) (.int v_place) q_question (.int v_questionSize) (.int v_facts) (.int v_isSo) (.int v_common) (.int v_readFacts) (.int v_readSo) (.int v_readCommon) (.int v_readDay) (.ref a_page) (.long v_seed) (.ref a_book) (.ref a_bookSeed) (.int v_acts) q_kept q_isKept (.int v_told) q_toldSimple q_toldDay q_toldYes q_yesOf q_noOf q_factOf q_stack q_one q_two q_three, aI cI a_book 120 w16, aI cI a_page 12 v_page, aJ cJ a_bookSeed 10 w23] H → va_S A s.heap H locs → lv_has ls 2 [(0, .ref a_th)] → W p l e (headSpec wsX10_note { frames := 0, cells := 0, slots := 0, locals := 0 }).room s m [.ref a_th].toArray below meth c H locs 0 0 Q (F0 m 66 ls [])) → va_P (dC, dI) vwCl [oX10 a_th (.int v_thrown) q_text (.int v_textSize) (.int v_place) q_question (.int v_questionSize) (.int v_facts) (.int v_isSo) (.int v_common) (.int v_readFacts) (.int v_readSo) (.int v_readCommon) (.int v_readDay) (.ref a_page) (.long v_seed) (.ref a_book) (.ref a_bookSeed) (.int v_acts) q_kept q_isKept (.int v_told) q_toldSimple q_toldDay q_toldYes q_yesOf q_noOf q_factOf q_stack q_one q_two q_three, aI cI a_book 120 w16, aI cI a_page 12 v_page, aJ cJ a_bookSeed 10 w22] H → va_S A s.heap H locs → lv_has ls 2 [(0, .ref a_th), (1, .int x21)] → W p l e (headSpec wsX10_note { frames := 0, cells := 0, slots := 0, locals := 0 }).room s m [.ref a_th].toArray below meth c H locs 0 0 Q (F0 m 40 ls []) := by
      intro n40
      induction n40 with
      | zero =>
        intro x21 w22 k40 H locs ls hm
        cases (show (none : Option (Int32 × (Nat → Int32) × (Nat → Int64))) = some o from hm)
      | succ n40 ih40 =>
        intro x21 w22 k40 H locs ls hm hk40 hP hS hl
        rw [L_X10_note_40.eq_2] at hm
        refine lv_iload_n hx hb dX10_note_40 rfl (lv_at hl 1 rfl) ?_
        refine lv_bipush (v := (9 : Int32)) hx hb dX10_note_41 (by decide) ?_
        refine lv_icmp_ge (tgt := 66) hx hb dX10_note_43 (by decide) (fun c24 => ?_) (fun c24 => ?_)
        · replace hm := ite_t c24 hm
          exact hk40 w22 _ _ _ hm hP hS (lv_sub hl [0] rfl)
        · replace hm := ite_f c24 hm
          refine lv_aload_n hx hb dX10_note_46 rfl (lv_at hl 0 rfl) ?_
          refine va_get (D := (dC, dI)) (ci := 8) (v := .ref a_bookSeed) (C := RX10) (T := TX10) (N := 31) hx hb hts iX10 hown hK hP 0 rfl rfl 16 (by decide) f22 (fun _ h9 => h9) rfl dX10_note_47 ?_
          refine lv_iload_n hx hb dX10_note_50 rfl (lv_at hl 1 rfl) ?_
          refine lv_aload_n hx hb dX10_note_51 rfl (lv_at hl 0 rfl) ?_
          refine va_get (D := (dC, dI)) (ci := 8) (v := .ref a_bookSeed) (C := RX10) (T := TX10) (N := 31) hx hb hts iX10 hown hK hP 0 rfl rfl 16 (by decide) f22 (fun _ h9 => h9) rfl dX10_note_52 ?_
          refine lv_iload_n hx hb dX10_note_55 rfl (lv_at hl 1 rfl) ?_
          refine lv_iconst (v := (1 : Int32)) hx hb dX10_note_56 (by decide) ?_
          refine lv_iadd hx hb dX10_note_57 ?_
          obtain ⟨h25, hm⟩ := gd_s hm
          refine va_lald hx hb hK hP 3 1 rfl rfl (inB_s h25) dX10_note_58 ?_
          obtain ⟨h26, hm⟩ := gd_s hm
          refine va_last hx hb hK hP (kb_D hD rfl) hS 3 1 rfl rfl (inB_s h26) dX10_note_59 (fun H locs hP _ hS => ?_)
          have hP : va_P (dC, dI) vwCl [oX10 a_th (.int v_thrown) q_text (.int v_textSize) (.int v_place) q_question (.int v_questionSize) (.int v_facts) (.int v_isSo) (.int v_common) (.int v_readFacts) (.int v_readSo) (.int v_readCommon) (.int v_readDay) (.ref a_page) (.long v_seed) (.ref a_book) (.ref a_bookSeed) (.int v_acts) q_kept q_isKept (.int v_told) q_toldSimple q_toldDay q_toldYes q_yesOf q_noOf q_factOf q_stack q_one q_two q_three, aI cI a_book 120 w16, aI cI a_page 12 v_page, aJ cJ a_bookSeed 10 (vp_updL w22 (Int32.toNatClampNeg x21) (w22 (Int32.toNatClampNeg (x21 + (1 : Int32)))))] H := hP
          obtain ⟨x27, ex27⟩ : ∃ y : Int32, y = x21 + (1 : Int32) := ⟨_, rfl⟩
          replace hm := nm_t ex27 hm
          refine lv_iinc (v := x27) (lv' := [(1, .int x27), (0, .ref a_th)]) hx hb dX10_note_60 hl (k := 1) rfl (by rw [ex27]; rfl) (by decide) rfl (fun ls hl => ?_)
          refine lv_goto (tgt := 40) hx hb dX10_note_63 (by decide) ?_
          exact ih40 x27 (vp_updL w22 (Int32.toNatClampNeg x21) (w22 (Int32.toNatClampNeg (x21 + (1 : Int32))))) k40 _ _ _ hm hk40 hP hS (lv_sub hl [1, 0] rfl)
    refine lp40 1024 (0 : Int32) v_bookSeed _ _ _ _ hm (fun w23 H locs ls hm hP hS hl => ?_) hP hS (lv_sub hl [1, 0] rfl)
    refine lv_aload_n hx hb dX10_note_66 rfl (lv_at hl 0 rfl) ?_
    refine lv_dup hx hb dX10_note_67 rfl ?_
    refine va_get (D := (dC, dI)) (ci := 8) (v := .int v_acts) (C := RX10) (T := TX10) (N := 31) hx hb hts iX10 hown hK hP 0 rfl rfl 17 (by decide) f114 (fun _ h9 => h9) rfl dX10_note_68 ?_
    refine lv_iconst (v := (1 : Int32)) hx hb dX10_note_71 (by decide) ?_
    refine lv_isub hx hb dX10_note_72 ?_
    refine lv_topi (fun x28 ex28 => ?_)
    replace hm := nm_t ex28 hm
    refine va_put (D := (dC, dI)) (ci := 8) (v := .int x28) (ty := .int) (C := RX10) (T := TX10) (N := 31) hx hb hts iX10 tyX10 tyX10_ok nmX10 hown hK hP (kb_D hD rfl) hS 0 rfl rfl 17 (by decide) f114 (fun _ h9 => h9) rfl (by decide +kernel) rfl rfl (Nat.le_of_ble_eq_true rfl) dX10_note_73 (fun H locs hP _ hS => ?_)
    have hP : va_P (dC, dI) vwCl [oX10 a_th (.int v_thrown) q_text (.int v_textSize) (.int v_place) q_question (.int v_questionSize) (.int v_facts) (.int v_isSo) (.int v_common) (.int v_readFacts) (.int v_readSo) (.int v_readCommon) (.int v_readDay) (.ref a_page) (.long v_seed) (.ref a_book) (.ref a_bookSeed) (.int x28) q_kept q_isKept (.int v_told) q_toldSimple q_toldDay q_toldYes q_yesOf q_noOf q_factOf q_stack q_one q_two q_three, aI cI a_book 120 w16, aI cI a_page 12 v_page, aJ cJ a_bookSeed 10 w23] H := hP
    exact J76 x28 w16 w23 _ _ _ hm hP hS (lv_sub hl [0] rfl)
set_option maxHeartbeats 4000000 in
set_option maxRecDepth 100000 in
theorem c_X10_part (l : Launch) (dC : Nat → ClassId) (dI : Nat → Nat → Nat) (cI cJ cZ cQ : ClassId) (t sz : Nat) (a_th : Nat) (a_p1 : Nat) (a_question : Nat) (a_stack : Nat) (a_yesOf : Nat) (a_noOf : Nat) (a_p5 : Nat) (n_p1 : Nat) (n_p5 : Nat) (q_text : Value) (q_page : Value) (q_book : Value) (q_bookSeed : Value) (q_kept : Value) (q_isKept : Value) (q_toldSimple : Value) (q_toldDay : Value) (q_toldYes : Value) (q_factOf : Value) (q_one : Value) (q_two : Value) (q_three : Value) (v_thrown : Int32) (v_textSize : Int32) (v_place : Int32) (v_questionSize : Int32) (v_facts : Int32) (v_isSo : Int32) (v_common : Int32) (v_readFacts : Int32) (v_readSo : Int32) (v_readCommon : Int32) (v_readDay : Int32) (v_seed : Int64) (v_acts : Int32) (v_told : Int32) (v_p1 : (Nat → Int32)) (v_question : (Nat → Int32)) (v_stack : (Nat → Int32)) (v_yesOf : (Nat → Int32)) (v_noOf : (Nat → Int32)) (v_p5 : (Nat → Int32)) (p_2 : Int32) (p_3 : Int32) (p_4 : Int32) (o : (Nat → Int32) × (Nat → Int32)) (hm : m_X10_part p_2 p_3 p_4 n_p1 n_p5 v_questionSize v_facts v_p1 v_question v_stack v_yesOf v_noOf v_p5 = some o) : Met l yX10_part wsX10_part { frames := 4, cells := 0, slots := 0, locals := 104 } (va_Pc [.ref a_th, .ref a_p1, .int p_2, .int p_3, .int p_4, .ref a_p5] (cP (dC, dI) (kT cI cJ cZ cQ) t sz [oX10 a_th (.int v_thrown) q_text (.int v_textSize) (.int v_place) (.ref a_question) (.int v_questionSize) (.int v_facts) (.int v_isSo) (.int v_common) (.int v_readFacts) (.int v_readSo) (.int v_readCommon) (.int v_readDay) q_page (.long v_seed) q_book q_bookSeed (.int v_acts) q_kept q_isKept (.int v_told) q_toldSimple q_toldDay q_toldYes (.ref a_yesOf) (.ref a_noOf) q_factOf (.ref a_stack) q_one q_two q_three, aI cI a_p1 n_p1 v_p1, aI cI a_question 16 v_question, aI cZ a_stack 17 v_stack, aI cI a_yesOf 931 v_yesOf, aI cI a_noOf 931 v_noOf, aI cI a_p5 n_p5 v_p5])) (cQv (dC, dI) (va_A [oX10 a_th (.int v_thrown) q_text (.int v_textSize) (.int v_place) (.ref a_question) (.int v_questionSize) (.int v_facts) (.int v_isSo) (.int v_common) (.int v_readFacts) (.int v_readSo) (.int v_readCommon) (.int v_readDay) q_page (.long v_seed) q_book q_bookSeed (.int v_acts) q_kept q_isKept (.int v_told) q_toldSimple q_toldDay q_toldYes (.ref a_yesOf) (.ref a_noOf) q_factOf (.ref a_stack) q_one q_two q_three, aI cI a_p1 n_p1 v_p1, aI cI a_question 16 v_question, aI cZ a_stack 17 v_stack, aI cI a_yesOf 931 v_yesOf, aI cI a_noOf 931 v_noOf, aI cI a_p5 n_p5 v_p5] sz) [oX10 a_th (.int v_thrown) q_text (.int v_textSize) (.int v_place) (.ref a_question) (.int v_questionSize) (.int v_facts) (.int v_isSo) (.int v_common) (.int v_readFacts) (.int v_readSo) (.int v_readCommon) (.int v_readDay) q_page (.long v_seed) q_book q_bookSeed (.int v_acts) q_kept q_isKept (.int v_told) q_toldSimple q_toldDay q_toldYes (.ref a_yesOf) (.ref a_noOf) q_factOf (.ref a_stack) q_one q_two q_three, aI cI a_p1 n_p1 v_p1, aI cI a_question 16 v_question, aI cZ a_stack 17 (o.1), aI cI a_yesOf 931 v_yesOf, aI cI a_noOf 931 v_noOf, aI cI a_p5 n_p5 (o.2)]) 0 0 (va_A [oX10 a_th (.int v_thrown) q_text (.int v_textSize) (.int v_place) (.ref a_question) (.int v_questionSize) (.int v_facts) (.int v_isSo) (.int v_common) (.int v_readFacts) (.int v_readSo) (.int v_readCommon) (.int v_readDay) q_page (.long v_seed) q_book q_bookSeed (.int v_acts) q_kept q_isKept (.int v_told) q_toldSimple q_toldDay q_toldYes (.ref a_yesOf) (.ref a_noOf) q_factOf (.ref a_stack) q_one q_two q_three, aI cI a_p1 n_p1 v_p1, aI cI a_question 16 v_question, aI cZ a_stack 17 v_stack, aI cI a_yesOf 931 v_yesOf, aI cI a_noOf 931 v_noOf, aI cI a_p5 n_p5 v_p5] sz) := by
  refine Met.ofW (cc := cX10_part) (maxL := 9) (ret := none) (by decide) rfl ?_
  intro p e s m args below meth c s₁ B hml hv
  obtain ⟨rfl, hsz, hP, hK, hD0, hG⟩ := hv
  have hx := B.exec
  have hb := B.bytes
  have hr := B.returns
  have hts := atoms_spec (ws := wsX10_part) B.pre
  have hown : s.vm.findClass RX10 = some m.cls := findClass_of_methodNamed B.named
  have hlocks := B.notSynchronized
  subst hsz
  have hD := hD0.self (sz := s.heap.size)
  generalize hAe : va_A [oX10 a_th (.int v_thrown) q_text (.int v_textSize) (.int v_place) (.ref a_question) (.int v_questionSize) (.int v_facts) (.int v_isSo) (.int v_common) (.int v_readFacts) (.int v_readSo) (.int v_readCommon) (.int v_readDay) q_page (.long v_seed) q_book q_bookSeed (.int v_acts) q_kept q_isKept (.int v_told) q_toldSimple q_toldDay q_toldYes (.ref a_yesOf) (.ref a_noOf) q_factOf (.ref a_stack) q_one q_two q_three, aI cI a_p1 n_p1 v_p1, aI cI a_question 16 v_question, aI cZ a_stack 17 v_stack, aI cI a_yesOf 931 v_yesOf, aI cI a_noOf 931 v_noOf, aI cI a_p5 n_p5 v_p5] s.heap.size = A at hD hG ⊢
  have hA : ∀ q : Nat, s.heap.size ≤ q → A q := fun q h => by rw [← hAe]; exact Or.inr h
  have hS : va_S A s.heap s.heap [] := va_S.rf
  have hl := lv_entry ([.ref a_th, .ref a_p1, .int p_2, .int p_3, .int p_4, .ref a_p5]) (n := 9) (Nat.le_of_ble_eq_true rfl)
  rw [lg_entry_eq]
  generalize (lg_sl ([.ref a_th, .ref a_p1, .int p_2, .int p_3, .int p_4, .ref a_p5]) ++ List.replicate (9 - (lg_sl ([.ref a_th, .ref a_p1, .int p_2, .int p_3, .int p_4, .ref a_p5])).length) Slot.unset).toArray = ls at hl ⊢
  have hl : lv_has ls 9 [(0, .ref a_th), (1, .ref a_p1), (2, .int p_2), (3, .int p_3), (4, .int p_4), (5, .ref a_p5)] := hl
  have iX10 : ∀ w ∈ wsX100, w ∈ wsX10_part := fun _ h => List.mem_cons_of_mem _ (List.mem_append_right _ h)
  have f42 := hts (.fieldLink RX10 42 "TrueOnceWeekModel" "yesOf" "[I") (by decide +kernel)
  have f45 := hts (.fieldLink RX10 45 "TrueOnceWeekModel" "noOf" "[I") (by decide +kernel)
  have f102 := hts (.fieldLink RX10 102 "TrueOnceWeekModel" "facts" "I") (by decide +kernel)
  refine kb_gen (fun Q hQ => ?_)
  unfold m_X10_part at hm
  refine lv_iconst (v := (0 : Int32)) hx hb dX10_part_0 (by decide) ?_
  refine lv_istore (lv' := [(6, .int (0 : Int32)), (0, .ref a_th), (1, .ref a_p1), (2, .int p_2), (3, .int p_3), (4, .int p_4), (5, .ref a_p5)]) hx hb dX10_part_1 hl (by decide) rfl (fun ls hl => ?_)
  have lp3 : ∀ (n3 : Nat) (x1 : Int32) (w2 : (Nat → Int32)) (w3 : (Nat → Int32)) (k3 : (Nat → Int32) → (Nat → Int32) → Option ((Nat → Int32) × (Nat → Int32))) (H : Heap) (locs : List Loc) (ls : Array Slot), L_X10_part_3 v_questionSize v_facts v_p1 v_question v_yesOf v_noOf p_2 p_3 p_4 n_p1 n_p5 n3 x1 w2 w3 k3 = some o → (∀ (w4 : (Nat → Int32)) (w5 : (Nat → Int32)) (H : Heap) (locs : List Loc) (ls : Array Slot), k3 w4 w5 = some o → va_P (dC, dI) vwCl [oX10 a_th (.int v_thrown) q_text (.int v_textSize) (.int v_place) (.ref a_question) (.int v_questionSize) (.int v_facts) (.int v_isSo) (.int v_common) (.int v_readFacts) (.int v_readSo) (.int v_readCommon) (.int v_readDay) q_page (.long v_seed) q_book q_bookSeed (.int v_acts) q_kept q_isKept (.int v_told) q_toldSimple q_toldDay q_toldYes (.ref a_yesOf) (.ref a_noOf) q_factOf (.ref a_stack) q_one q_two q_three, aI cI a_p1 n_p1 v_p1, aI cI a_question 16 v_question, aI cZ a_stack 17 w4, aI cI a_yesOf 931 v_yesOf, aI cI a_noOf 931 v_noOf, aI cI a_p5 n_p5 w5] H → va_S A s.heap H locs → lv_has ls 9 [] → W p l e (headSpec wsX10_part { frames := 4, cells := 0, slots := 0, locals := 104 }).room s m [.ref a_th, .ref a_p1, .int p_2, .int p_3, .int p_4, .ref a_p5].toArray below meth c H locs 0 0 Q (F0 m 169 ls [])) → va_P (dC, dI) vwCl [oX10 a_th (.int v_thrown) q_text (.int v_textSize) (.int v_place) (.ref a_question) (.int v_questionSize) (.int v_facts) (.int v_isSo) (.int v_common) (.int v_readFacts) (.int v_readSo) (.int v_readCommon) (.int v_readDay) q_page (.long v_seed) q_book q_bookSeed (.int v_acts) q_kept q_isKept (.int v_told) q_toldSimple q_toldDay q_toldYes (.ref a_yesOf) (.ref a_noOf) q_factOf (.ref a_stack) q_one q_two q_three, aI cI a_p1 n_p1 v_p1, aI cI a_question 16 v_question, aI cZ a_stack 17 w2, aI cI a_yesOf 931 v_yesOf, aI cI a_noOf 931 v_noOf, aI cI a_p5 n_p5 w3] H → va_S A s.heap H locs → lv_has ls 9 [(0, .ref a_th), (1, .ref a_p1), (2, .int p_2), (3, .int p_3), (4, .int p_4), (5, .ref a_p5), (6, .int x1)] → W p l e (headSpec wsX10_part { frames := 4, cells := 0, slots := 0, locals := 104 }).room s m [.ref a_th, .ref a_p1, .int p_2, .int p_3, .int p_4, .ref a_p5].toArray below meth c H locs 0 0 Q (F0 m 3 ls []) := by
    intro n3
    induction n3 with
    | zero =>
      intro x1 w2 w3 k3 H locs ls hm
      cases (show (none : Option ((Nat → Int32) × (Nat → Int32))) = some o from hm)
    | succ n3 ih3 =>
      intro x1 w2 w3 k3 H locs ls hm hk3 hP hS hl
      rw [L_X10_part_3.eq_2] at hm
      refine lv_iload hx hb dX10_part_3 (lv_at hl 6 rfl) ?_
      refine lv_bipush (v := (7 : Int32)) hx hb dX10_part_5 (by decide) ?_
      refine lv_icmp_ge (tgt := 169) hx hb dX10_part_7 (by decide) (fun c6 => ?_) (fun c6 => ?_)
      · replace hm := ite_t c6 hm
        exact hk3 w2 w3 _ _ _ hm hP hS (lv_sub hl [] rfl)
      · replace hm := ite_f c6 hm
        refine lv_iconst (v := (0 : Int32)) hx hb dX10_part_10 (by decide) ?_
        refine lv_istore (lv' := [(7, .int (0 : Int32)), (0, .ref a_th), (1, .ref a_p1), (2, .int p_2), (3, .int p_3), (4, .int p_4), (5, .ref a_p5), (6, .int x1)]) hx hb dX10_part_11 hl (by decide) rfl (fun ls hl => ?_)
        refine lv_iload_n hx hb dX10_part_13 rfl (lv_at hl 3 rfl) ?_
        refine lv_bipush (v := (-9 : Int32)) hx hb dX10_part_14 (by decide) ?_
        obtain ⟨k151, ek151, hm⟩ := nm_s hm
        have J151 : ∀ (x7 : Int32) (w8 : (Nat → Int32)) (H : Heap) (locs : List Loc) (ls : Array Slot), k151 x7 w8 = some o → va_P (dC, dI) vwCl [oX10 a_th (.int v_thrown) q_text (.int v_textSize) (.int v_place) (.ref a_question) (.int v_questionSize) (.int v_facts) (.int v_isSo) (.int v_common) (.int v_readFacts) (.int v_readSo) (.int v_readCommon) (.int v_readDay) q_page (.long v_seed) q_book q_bookSeed (.int v_acts) q_kept q_isKept (.int v_told) q_toldSimple q_toldDay q_toldYes (.ref a_yesOf) (.ref a_noOf) q_factOf (.ref a_stack) q_one q_two q_three, aI cI a_p1 n_p1 v_p1, aI cI a_question 16 v_question, aI cZ a_stack 17 w8, aI cI a_yesOf 931 v_yesOf, aI cI a_noOf 931 v_noOf, aI cI a_p5 n_p5 w3] H → va_S A s.heap H locs → lv_has ls 9 [(0, .ref a_th), (1, .ref a_p1), (2, .int p_2), (3, .int p_3), (4, .int p_4), (5, .ref a_p5), (6, .int x1), (7, .int x7)] → W p l e (headSpec wsX10_part { frames := 4, cells := 0, slots := 0, locals := 104 }).room s m [.ref a_th, .ref a_p1, .int p_2, .int p_3, .int p_4, .ref a_p5].toArray below meth c H locs 0 0 Q (F0 m 151 ls []) := by
          intro x7 w8 H locs ls hm hP hS hl
          rw [ek151] at hm
          refine lv_aload hx hb dX10_part_151 (lv_at hl 5 rfl) ?_
          refine lv_iload hx hb dX10_part_153 (lv_at hl 6 rfl) ?_
          refine lv_aload_n hx hb dX10_part_155 rfl (lv_at hl 1 rfl) ?_
          refine lv_iload hx hb dX10_part_156 (lv_at hl 6 rfl) ?_
          obtain ⟨h9, hm⟩ := gd_s hm
          refine va_iald hx hb hK hP 1 0 rfl rfl (inB_s h9) dX10_part_158 ?_
          refine lv_iload hx hb dX10_part_159 (lv_at hl 7 rfl) ?_
          refine lv_iand hx hb dX10_part_161 ?_
          obtain ⟨h10, hm⟩ := gd_s hm
          refine va_iast hx hb hK hP (kb_D hD rfl) hS 6 0 rfl rfl (inB_s h10) dX10_part_162 (fun H locs hP _ hS => ?_)
          have hP : va_P (dC, dI) vwCl [oX10 a_th (.int v_thrown) q_text (.int v_textSize) (.int v_place) (.ref a_question) (.int v_questionSize) (.int v_facts) (.int v_isSo) (.int v_common) (.int v_readFacts) (.int v_readSo) (.int v_readCommon) (.int v_readDay) q_page (.long v_seed) q_book q_bookSeed (.int v_acts) q_kept q_isKept (.int v_told) q_toldSimple q_toldDay q_toldYes (.ref a_yesOf) (.ref a_noOf) q_factOf (.ref a_stack) q_one q_two q_three, aI cI a_p1 n_p1 v_p1, aI cI a_question 16 v_question, aI cZ a_stack 17 w8, aI cI a_yesOf 931 v_yesOf, aI cI a_noOf 931 v_noOf, aI cI a_p5 n_p5 (upd w3 (Int32.toNatClampNeg x1) ((v_p1 (Int32.toNatClampNeg x1)) &&& x7))] H := hP
          obtain ⟨x11, ex11⟩ : ∃ y : Int32, y = x1 + (1 : Int32) := ⟨_, rfl⟩
          replace hm := nm_t ex11 hm
          refine lv_iinc (v := x11) (lv' := [(6, .int x11), (0, .ref a_th), (1, .ref a_p1), (2, .int p_2), (3, .int p_3), (4, .int p_4), (5, .ref a_p5), (7, .int x7)]) hx hb dX10_part_163 hl (k := 6) rfl (by rw [ex11]; rfl) (by decide) rfl (fun ls hl => ?_)
          refine lv_goto (tgt := 3) hx hb dX10_part_166 (by decide) ?_
          exact ih3 x11 w8 (upd w3 (Int32.toNatClampNeg x1) ((v_p1 (Int32.toNatClampNeg x1)) &&& x7)) k3 _ _ _ hm hk3 hP hS (lv_sub hl [1, 2, 3, 4, 5, 6, 0] rfl)
        refine lv_icmp_ne (tgt := 84) hx hb dX10_part_16 (by decide) (fun c12 => ?_) (fun c12 => ?_)
        · replace hm := ite_f c12 hm
          refine lv_bipush (v := (49 : Int32)) hx hb dX10_part_84 (by decide) ?_
          refine lv_iload_n hx hb dX10_part_86 rfl (lv_at hl 3 rfl) ?_
          refine lv_imul hx hb dX10_part_87 ?_
          refine lv_bipush (v := (7 : Int32)) hx hb dX10_part_88 (by decide) ?_
          refine lv_iload_n hx hb dX10_part_90 rfl (lv_at hl 4 rfl) ?_
          refine lv_bipush (v := (7 : Int32)) hx hb dX10_part_91 (by decide) ?_
          refine lv_irem hx hb dX10_part_93 (by decide) ?_
          refine lv_imul hx hb dX10_part_94 ?_
          refine lv_iadd hx hb dX10_part_95 ?_
          refine lv_iload hx hb dX10_part_96 (lv_at hl 7 rfl) ?_
          refine lv_iadd hx hb dX10_part_98 ?_
          refine lv_topi (fun x13 ex13 => ?_)
          replace hm := nm_t ex13 hm
          refine lv_istore (lv' := [(8, .int x13), (7, .int (0 : Int32)), (0, .ref a_th), (1, .ref a_p1), (2, .int p_2), (3, .int p_3), (4, .int p_4), (5, .ref a_p5), (6, .int x1)]) hx hb dX10_part_99 hl (by decide) rfl (fun ls hl => ?_)
          refine lv_iload hx hb dX10_part_101 (lv_at hl 6 rfl) ?_
          refine lv_iconst (v := (1 : Int32)) hx hb dX10_part_103 (by decide) ?_
          obtain ⟨k149, ek149, hm⟩ := nm_s hm
          have J149 : ∀ (x14 : Int32) (H : Heap) (locs : List Loc) (ls : Array Slot), k149 x14 = some o → va_P (dC, dI) vwCl [oX10 a_th (.int v_thrown) q_text (.int v_textSize) (.int v_place) (.ref a_question) (.int v_questionSize) (.int v_facts) (.int v_isSo) (.int v_common) (.int v_readFacts) (.int v_readSo) (.int v_readCommon) (.int v_readDay) q_page (.long v_seed) q_book q_bookSeed (.int v_acts) q_kept q_isKept (.int v_told) q_toldSimple q_toldDay q_toldYes (.ref a_yesOf) (.ref a_noOf) q_factOf (.ref a_stack) q_one q_two q_three, aI cI a_p1 n_p1 v_p1, aI cI a_question 16 v_question, aI cZ a_stack 17 w2, aI cI a_yesOf 931 v_yesOf, aI cI a_noOf 931 v_noOf, aI cI a_p5 n_p5 w3] H → va_S A s.heap H locs → lv_has ls 9 [(0, .ref a_th), (1, .ref a_p1), (2, .int p_2), (3, .int p_3), (4, .int p_4), (5, .ref a_p5), (6, .int x1)] → W p l e (headSpec wsX10_part { frames := 4, cells := 0, slots := 0, locals := 104 }).room s m [.ref a_th, .ref a_p1, .int p_2, .int p_3, .int p_4, .ref a_p5].toArray below meth c H locs 0 0 Q (F0 m 149 ls [.int x14]) := by
            intro x14 H locs ls hm hP hS hl
            rw [ek149] at hm
            refine lv_istore (lv' := [(7, .int x14), (0, .ref a_th), (1, .ref a_p1), (2, .int p_2), (3, .int p_3), (4, .int p_4), (5, .ref a_p5), (6, .int x1)]) hx hb dX10_part_149 hl (by decide) rfl (fun ls hl => ?_)
            exact J151 x14 w2 _ _ _ hm hP hS (lv_sub hl [1, 2, 3, 4, 5, 6, 7, 0] rfl)
          refine lv_icmp_ne (tgt := 117) hx hb dX10_part_104 (by decide) (fun c15 => ?_) (fun c15 => ?_)
          · replace hm := ite_f c15 hm
            refine lv_iload hx hb dX10_part_117 (lv_at hl 6 rfl) ?_
            refine lv_if_ne (tgt := 132) hx hb dX10_part_119 (by decide) (fun c16 => ?_) (fun c16 => ?_)
            · replace hm := ite_f c16 hm
              refine lv_aload_n hx hb dX10_part_132 rfl (lv_at hl 2 rfl) ?_
              refine va_get (D := (dC, dI)) (ci := 8) (v := .ref a_yesOf) (C := RX10) (T := TX10) (N := 31) hx hb hts iX10 hown hK hP 0 rfl rfl 24 (by decide) f42 (fun _ h9 => h9) rfl dX10_part_133 ?_
              refine lv_iload hx hb dX10_part_136 (lv_at hl 0 rfl) ?_
              obtain ⟨h17, hm⟩ := gd_s hm
              refine va_iald hx hb hK hP 4 0 rfl rfl (inB_s h17) dX10_part_138 ?_
              refine lv_aload_n hx hb dX10_part_139 rfl (lv_at hl 2 rfl) ?_
              refine va_get (D := (dC, dI)) (ci := 8) (v := .ref a_noOf) (C := RX10) (T := TX10) (N := 31) hx hb hts iX10 hown hK hP 0 rfl rfl 25 (by decide) f45 (fun _ h9 => h9) rfl dX10_part_140 ?_
              refine lv_iload hx hb dX10_part_143 (lv_at hl 0 rfl) ?_
              obtain ⟨h18, hm⟩ := gd_s hm
              refine va_iald hx hb hK hP 5 0 rfl rfl (inB_s h18) dX10_part_145 ?_
              refine lv_ior hx hb dX10_part_146 ?_
              refine lv_iconst (v := (-1 : Int32)) hx hb dX10_part_147 (by decide) ?_
              refine lv_ixor hx hb dX10_part_148 ?_
              exact J149 (((v_yesOf (Int32.toNatClampNeg x13)) ||| (v_noOf (Int32.toNatClampNeg x13))) ^^^ (-1 : Int32)) _ _ _ hm hP hS (lv_sub hl [2, 3, 4, 5, 6, 7, 8] rfl)
            · replace hm := ite_t c16 hm
              refine lv_aload_n hx hb dX10_part_122 rfl (lv_at hl 2 rfl) ?_
              refine va_get (D := (dC, dI)) (ci := 8) (v := .ref a_noOf) (C := RX10) (T := TX10) (N := 31) hx hb hts iX10 hown hK hP 0 rfl rfl 25 (by decide) f45 (fun _ h9 => h9) rfl dX10_part_123 ?_
              refine lv_iload hx hb dX10_part_126 (lv_at hl 0 rfl) ?_
              obtain ⟨h19, hm⟩ := gd_s hm
              refine va_iald hx hb hK hP 5 0 rfl rfl (inB_s h19) dX10_part_128 ?_
              refine lv_goto (tgt := 149) hx hb dX10_part_129 (by decide) ?_
              exact J149 (v_noOf (Int32.toNatClampNeg x13)) _ _ _ hm hP hS (lv_sub hl [2, 3, 4, 5, 6, 7, 8] rfl)
          · replace hm := ite_t c15 hm
            refine lv_aload_n hx hb dX10_part_107 rfl (lv_at hl 2 rfl) ?_
            refine va_get (D := (dC, dI)) (ci := 8) (v := .ref a_yesOf) (C := RX10) (T := TX10) (N := 31) hx hb hts iX10 hown hK hP 0 rfl rfl 24 (by decide) f42 (fun _ h9 => h9) rfl dX10_part_108 ?_
            refine lv_iload hx hb dX10_part_111 (lv_at hl 0 rfl) ?_
            obtain ⟨h20, hm⟩ := gd_s hm
            refine va_iald hx hb hK hP 4 0 rfl rfl (inB_s h20) dX10_part_113 ?_
            refine lv_goto (tgt := 149) hx hb dX10_part_114 (by decide) ?_
            exact J149 (v_yesOf (Int32.toNatClampNeg x13)) _ _ _ hm hP hS (lv_sub hl [2, 3, 4, 5, 6, 7, 8] rfl)
        · replace hm := ite_t c12 hm
          refine lv_iconst (v := (0 : Int32)) hx hb dX10_part_19 (by decide) ?_
          refine lv_istore (lv' := [(8, .int (0 : Int32)), (7, .int (0 : Int32)), (0, .ref a_th), (1, .ref a_p1), (2, .int p_2), (3, .int p_3), (4, .int p_4), (5, .ref a_p5), (6, .int x1)]) hx hb dX10_part_20 hl (by decide) rfl (fun ls hl => ?_)
          have lp22 : ∀ (n22 : Nat) (x21 : Int32) (x22 : Int32) (w23 : (Nat → Int32)) (k22 : Int32 → (Nat → Int32) → Option ((Nat → Int32) × (Nat → Int32))) (H : Heap) (locs : List Loc) (ls : Array Slot), L_X10_part_22 v_questionSize v_facts v_p1 v_question p_2 p_3 p_4 n_p1 x1 n22 x21 x22 w23 k22 = some o → (∀ (x24 : Int32) (w25 : (Nat → Int32)) (H : Heap) (locs : List Loc) (ls : Array Slot), k22 x24 w25 = some o → va_P (dC, dI) vwCl [oX10 a_th (.int v_thrown) q_text (.int v_textSize) (.int v_place) (.ref a_question) (.int v_questionSize) (.int v_facts) (.int v_isSo) (.int v_common) (.int v_readFacts) (.int v_readSo) (.int v_readCommon) (.int v_readDay) q_page (.long v_seed) q_book q_bookSeed (.int v_acts) q_kept q_isKept (.int v_told) q_toldSimple q_toldDay q_toldYes (.ref a_yesOf) (.ref a_noOf) q_factOf (.ref a_stack) q_one q_two q_three, aI cI a_p1 n_p1 v_p1, aI cI a_question 16 v_question, aI cZ a_stack 17 w25, aI cI a_yesOf 931 v_yesOf, aI cI a_noOf 931 v_noOf, aI cI a_p5 n_p5 w3] H → va_S A s.heap H locs → lv_has ls 9 [(0, .ref a_th), (1, .ref a_p1), (2, .int p_2), (3, .int p_3), (4, .int p_4), (5, .ref a_p5), (6, .int x1), (7, .int x24)] → W p l e (headSpec wsX10_part { frames := 4, cells := 0, slots := 0, locals := 104 }).room s m [.ref a_th, .ref a_p1, .int p_2, .int p_3, .int p_4, .ref a_p5].toArray below meth c H locs 0 0 Q (F0 m 81 ls [])) → va_P (dC, dI) vwCl [oX10 a_th (.int v_thrown) q_text (.int v_textSize) (.int v_place) (.ref a_question) (.int v_questionSize) (.int v_facts) (.int v_isSo) (.int v_common) (.int v_readFacts) (.int v_readSo) (.int v_readCommon) (.int v_readDay) q_page (.long v_seed) q_book q_bookSeed (.int v_acts) q_kept q_isKept (.int v_told) q_toldSimple q_toldDay q_toldYes (.ref a_yesOf) (.ref a_noOf) q_factOf (.ref a_stack) q_one q_two q_three, aI cI a_p1 n_p1 v_p1, aI cI a_question 16 v_question, aI cZ a_stack 17 w23, aI cI a_yesOf 931 v_yesOf, aI cI a_noOf 931 v_noOf, aI cI a_p5 n_p5 w3] H → va_S A s.heap H locs → lv_has ls 9 [(0, .ref a_th), (1, .ref a_p1), (2, .int p_2), (3, .int p_3), (4, .int p_4), (5, .ref a_p5), (6, .int x1), (7, .int x21), (8, .int x22)] → W p l e (headSpec wsX10_part { frames := 4, cells := 0, slots := 0, locals := 104 }).room s m [.ref a_th, .ref a_p1, .int p_2, .int p_3, .int p_4, .ref a_p5].toArray below meth c H locs 0 0 Q (F0 m 22 ls []) := by
            intro n22
            induction n22 with
            | zero =>
              intro x21 x22 w23 k22 H locs ls hm
              cases (show (none : Option ((Nat → Int32) × (Nat → Int32))) = some o from hm)
            | succ n22 ih22 =>
              intro x21 x22 w23 k22 H locs ls hm hk22 hP hS hl
              rw [L_X10_part_22.eq_2] at hm
              refine lv_iload hx hb dX10_part_22 (lv_at hl 8 rfl) ?_
              refine lv_iconst (v := (1 : Int32)) hx hb dX10_part_24 (by decide) ?_
              refine lv_aload_n hx hb dX10_part_25 rfl (lv_at hl 0 rfl) ?_
              refine va_get (D := (dC, dI)) (ci := 8) (v := .int v_facts) (C := RX10) (T := TX10) (N := 31) hx hb hts iX10 hown hK hP 0 rfl rfl 6 (by decide) f102 (fun _ h9 => h9) rfl dX10_part_26 ?_
              refine lv_ishl hx hb dX10_part_29 ?_
              refine lv_icmp_ge (tgt := 81) hx hb dX10_part_30 (by decide) (fun c26 => ?_) (fun c26 => ?_)
              · replace hm := ite_t c26 hm
                exact hk22 x21 w23 _ _ _ hm hP hS (lv_sub hl [0, 1, 2, 3, 4, 5, 6, 7] rfl)
              · replace hm := ite_f c26 hm
                refine lv_iload hx hb dX10_part_33 (lv_at hl 7 rfl) ?_
                refine lv_aload_n hx hb dX10_part_35 rfl (lv_at hl 1 rfl) ?_
                refine lv_iload hx hb dX10_part_36 (lv_at hl 6 rfl) ?_
                obtain ⟨h27, hm⟩ := gd_s hm
                refine va_iald hx hb hK hP 1 0 rfl rfl (inB_s h27) dX10_part_38 ?_
                refine lv_iload hx hb dX10_part_39 (lv_at hl 8 rfl) ?_
                obtain ⟨r28, ho29, hm⟩ := bd1_s hm
                refine kb_calli (Rv := r28) (va_runS (As := [.int (v_p1 (Int32.toNatClampNeg x1)), .int x22]) (rest := [.int x21]) ⟨hx, hb, hml, hown, hts⟩ (c_X10_has l dC dI cI cJ cZ cQ t H.size (v_p1 (Int32.toNatClampNeg x1)) x22 (r28) ho29) (va_cwS 2 hts gX10_part_X10_has rfl rfl rfl (by decide +kernel) ⟨(Nat.le_of_ble_eq_true rfl), (Nat.le_of_ble_eq_true rfl)⟩) (kb_pre hK hG hP (kb_D hD rfl) hS hA [] rfl (by decide)) rfl rfl hl.1 rfl (lv_room (Nat.le_of_ble_eq_true rfl)) dX10_part_41 ⟨Nat.zero_le _, Nat.zero_le _⟩) hP (kb_D hD rfl) hS hA [] rfl [(false, 0), (false, 1), (false, 2), (false, 3), (false, 4), (false, 5), (false, 6)] (w2 := [oX10 a_th (.int v_thrown) q_text (.int v_textSize) (.int v_place) (.ref a_question) (.int v_questionSize) (.int v_facts) (.int v_isSo) (.int v_common) (.int v_readFacts) (.int v_readSo) (.int v_readCommon) (.int v_readDay) q_page (.long v_seed) q_book q_bookSeed (.int v_acts) q_kept q_isKept (.int v_told) q_toldSimple q_toldDay q_toldYes (.ref a_yesOf) (.ref a_noOf) q_factOf (.ref a_stack) q_one q_two q_three, aI cI a_p1 n_p1 v_p1, aI cI a_question 16 v_question, aI cZ a_stack 17 w23, aI cI a_yesOf 931 v_yesOf, aI cI a_noOf 931 v_noOf, aI cI a_p5 n_p5 w3]) rfl (by decide) (fun H locs hP hS => ?_)
                obtain ⟨k72, ek72, hm⟩ := nm_s hm
                have J72 : ∀ (x30 : Int32) (w31 : (Nat → Int32)) (H : Heap) (locs : List Loc) (ls : Array Slot), k72 x30 w31 = some o → va_P (dC, dI) vwCl [oX10 a_th (.int v_thrown) q_text (.int v_textSize) (.int v_place) (.ref a_question) (.int v_questionSize) (.int v_facts) (.int v_isSo) (.int v_common) (.int v_readFacts) (.int v_readSo) (.int v_readCommon) (.int v_readDay) q_page (.long v_seed) q_book q_bookSeed (.int v_acts) q_kept q_isKept (.int v_told) q_toldSimple q_toldDay q_toldYes (.ref a_yesOf) (.ref a_noOf) q_factOf (.ref a_stack) q_one q_two q_three, aI cI a_p1 n_p1 v_p1, aI cI a_question 16 v_question, aI cZ a_stack 17 w31, aI cI a_yesOf 931 v_yesOf, aI cI a_noOf 931 v_noOf, aI cI a_p5 n_p5 w3] H → va_S A s.heap H locs → lv_has ls 9 [(0, .ref a_th), (1, .ref a_p1), (2, .int p_2), (3, .int p_3), (4, .int p_4), (5, .ref a_p5), (6, .int x1), (8, .int x22)] → W p l e (headSpec wsX10_part { frames := 4, cells := 0, slots := 0, locals := 104 }).room s m [.ref a_th, .ref a_p1, .int p_2, .int p_3, .int p_4, .ref a_p5].toArray below meth c H locs 0 0 Q (F0 m 72 ls [.int x30, .int x21]) := by
                  intro x30 w31 H locs ls hm hP hS hl
                  rw [ek72] at hm
                  refine lv_ior hx hb dX10_part_72 ?_
                  refine lv_topi (fun x32 ex32 => ?_)
                  replace hm := nm_t ex32 hm
                  refine lv_istore (lv' := [(7, .int x32), (0, .ref a_th), (1, .ref a_p1), (2, .int p_2), (3, .int p_3), (4, .int p_4), (5, .ref a_p5), (6, .int x1), (8, .int x22)]) hx hb dX10_part_73 hl (by decide) rfl (fun ls hl => ?_)
                  obtain ⟨x33, ex33⟩ : ∃ y : Int32, y = x22 + (1 : Int32) := ⟨_, rfl⟩
                  replace hm := nm_t ex33 hm
                  refine lv_iinc (v := x33) (lv' := [(8, .int x33), (7, .int x32), (0, .ref a_th), (1, .ref a_p1), (2, .int p_2), (3, .int p_3), (4, .int p_4), (5, .ref a_p5), (6, .int x1)]) hx hb dX10_part_75 hl (k := 8) rfl (by rw [ex33]; rfl) (by decide) rfl (fun ls hl => ?_)
                  refine lv_goto (tgt := 22) hx hb dX10_part_78 (by decide) ?_
                  exact ih22 x32 x33 w31 k22 _ _ _ hm hk22 hP hS (lv_sub hl [2, 3, 4, 5, 6, 7, 8, 1, 0] rfl)
                obtain ⟨k71, ek71, hm⟩ := nm_s hm
                have J71 : ∀ (w34 : (Nat → Int32)) (H : Heap) (locs : List Loc) (ls : Array Slot), k71 w34 = some o → va_P (dC, dI) vwCl [oX10 a_th (.int v_thrown) q_text (.int v_textSize) (.int v_place) (.ref a_question) (.int v_questionSize) (.int v_facts) (.int v_isSo) (.int v_common) (.int v_readFacts) (.int v_readSo) (.int v_readCommon) (.int v_readDay) q_page (.long v_seed) q_book q_bookSeed (.int v_acts) q_kept q_isKept (.int v_told) q_toldSimple q_toldDay q_toldYes (.ref a_yesOf) (.ref a_noOf) q_factOf (.ref a_stack) q_one q_two q_three, aI cI a_p1 n_p1 v_p1, aI cI a_question 16 v_question, aI cZ a_stack 17 w34, aI cI a_yesOf 931 v_yesOf, aI cI a_noOf 931 v_noOf, aI cI a_p5 n_p5 w3] H → va_S A s.heap H locs → lv_has ls 9 [(0, .ref a_th), (1, .ref a_p1), (2, .int p_2), (3, .int p_3), (4, .int p_4), (5, .ref a_p5), (6, .int x1), (8, .int x22)] → W p l e (headSpec wsX10_part { frames := 4, cells := 0, slots := 0, locals := 104 }).room s m [.ref a_th, .ref a_p1, .int p_2, .int p_3, .int p_4, .ref a_p5].toArray below meth c H locs 0 0 Q (F0 m 71 ls [.int x21]) := by
                  intro w34 H locs ls hm hP hS hl
                  rw [ek71] at hm
                  refine lv_iconst (v := (0 : Int32)) hx hb dX10_part_71 (by decide) ?_
                  exact J72 (0 : Int32) w34 _ _ _ hm hP hS (lv_sub hl [0, 1, 2, 3, 4, 5, 6, 7] rfl)
                refine lv_if_eq (tgt := 71) hx hb dX10_part_44 (by decide) (fun c35 => ?_) (fun c35 => ?_)
                · replace hm := ite_t c35 hm
                  exact J71 w23 _ _ _ hm hP hS (lv_sub hl [0, 1, 2, 3, 4, 5, 6, 8] rfl)
                · replace hm := ite_f c35 hm
                  refine lv_aload_n hx hb dX10_part_47 rfl (lv_at hl 0 rfl) ?_
                  refine lv_iload_n hx hb dX10_part_48 rfl (lv_at hl 2 rfl) ?_
                  refine lv_iload_n hx hb dX10_part_49 rfl (lv_at hl 3 rfl) ?_
                  refine lv_iload hx hb dX10_part_50 (lv_at hl 6 rfl) ?_
                  refine lv_iload hx hb dX10_part_52 (lv_at hl 6 rfl) ?_
                  refine lv_iload hx hb dX10_part_54 (lv_at hl 8 rfl) ?_
                  obtain ⟨r36, w37, ho38, hm⟩ := bd2_s hm
                  refine kb_calli (Rv := r36) (va_runV (As := [.int p_2, .int p_3, .int x1, .int x1, .int x22]) (rest := [.int x21]) ⟨hx, hb, hml, hown, hts⟩ (c_X10_answerOf l dC dI cI cJ cZ cQ t H.size a_th a_question a_stack q_text q_page q_book q_bookSeed q_kept q_isKept q_toldSimple q_toldDay q_toldYes (.ref a_yesOf) (.ref a_noOf) q_factOf q_one q_two q_three v_thrown v_textSize v_place v_questionSize v_facts v_isSo v_common v_readFacts v_readSo v_readCommon v_readDay v_seed v_acts v_told v_question w23 p_2 p_3 x1 x1 x22 (r36, w37) ho38) (cwV 5 hts gX10_part_X10_answerOf rfl rfl rfl (by decide +kernel) ⟨(Nat.le_of_ble_eq_true rfl), (Nat.le_of_ble_eq_true rfl)⟩) ⟨(kb_pre hK hG hP (kb_D hD rfl) hS hA [0, 2, 3] rfl (by decide)).1, (va_recv hK hP (ci := 8) (q0 := 0) rfl rfl), (kb_pre hK hG hP (kb_D hD rfl) hS hA [0, 2, 3] rfl (by decide)).2⟩ rfl rfl hl.1 rfl (lv_room (Nat.le_of_ble_eq_true rfl)) dX10_part_56 ⟨Nat.zero_le _, Nat.zero_le _⟩) hP (kb_D hD rfl) hS hA [0, 2, 3] rfl [(true, 0), (false, 1), (true, 1), (true, 2), (false, 4), (false, 5), (false, 6)] (w2 := [oX10 a_th (.int v_thrown) q_text (.int v_textSize) (.int v_place) (.ref a_question) (.int v_questionSize) (.int v_facts) (.int v_isSo) (.int v_common) (.int v_readFacts) (.int v_readSo) (.int v_readCommon) (.int v_readDay) q_page (.long v_seed) q_book q_bookSeed (.int v_acts) q_kept q_isKept (.int v_told) q_toldSimple q_toldDay q_toldYes (.ref a_yesOf) (.ref a_noOf) q_factOf (.ref a_stack) q_one q_two q_three, aI cI a_p1 n_p1 v_p1, aI cI a_question 16 v_question, aI cZ a_stack 17 w37, aI cI a_yesOf 931 v_yesOf, aI cI a_noOf 931 v_noOf, aI cI a_p5 n_p5 w3]) rfl (by decide) (fun H locs hP hS => ?_)
                  refine lv_iload hx hb dX10_part_59 (lv_at hl 4 rfl) ?_
                  refine lv_icmp_ne (tgt := 71) hx hb dX10_part_61 (by decide) (fun c39 => ?_) (fun c39 => ?_)
                  · replace hm := ite_f c39 hm
                    exact J71 w37 _ _ _ hm hP hS (lv_sub hl [0, 1, 2, 3, 4, 5, 6, 8] rfl)
                  · replace hm := ite_t c39 hm
                    refine lv_iconst (v := (1 : Int32)) hx hb dX10_part_64 (by decide) ?_
                    refine lv_iload hx hb dX10_part_65 (lv_at hl 8 rfl) ?_
                    refine lv_ishl hx hb dX10_part_67 ?_
                    refine lv_goto (tgt := 72) hx hb dX10_part_68 (by decide) ?_
                    exact J72 ((1 : Int32) <<< (x22 &&& 31)) w37 _ _ _ hm hP hS (lv_sub hl [0, 1, 2, 3, 4, 5, 6, 8] rfl)
          refine lp22 1024 (0 : Int32) (0 : Int32) w2 _ _ _ _ hm (fun x24 w25 H locs ls hm hP hS hl => ?_) hP hS (lv_sub hl [2, 3, 4, 5, 6, 7, 8, 1, 0] rfl)
          refine lv_goto (tgt := 151) hx hb dX10_part_81 (by decide) ?_
          exact J151 x24 w25 _ _ _ hm hP hS (lv_sub hl [0, 1, 2, 3, 4, 5, 6, 7] rfl)
  refine lp3 1024 (0 : Int32) v_stack v_p5 _ _ _ _ hm (fun w4 w5 H locs ls hm hP hS hl => ?_) hP hS (lv_sub hl [1, 2, 3, 4, 5, 6, 0] rfl)
  obtain rfl := Option.some.inj hm
  subst hQ
  exact W.vret hx hb hr (fun t ht hW => ⟨⟨(), rfl, trivial, kb_h hP ht⟩, hS.F ht⟩) hS.2.2 dX10_part_169
set_option maxHeartbeats 4000000 in
set_option maxRecDepth 100000 in
theorem c_X10_ask (l : Launch) (dC : Nat → ClassId) (dI : Nat → Nat → Nat) (cI cJ cZ cQ : ClassId) (t sz : Nat) (a_th : Nat) (a_question : Nat) (a_page : Nat) (a_book : Nat) (a_bookSeed : Nat) (a_stack : Nat) (a_yesOf : Nat) (a_noOf : Nat) (a_one : Nat) (q_text : Value) (q_kept : Value) (q_isKept : Value) (q_toldSimple : Value) (q_toldDay : Value) (q_toldYes : Value) (q_factOf : Value) (q_two : Value) (q_three : Value) (v_thrown : Int32) (v_textSize : Int32) (v_place : Int32) (v_questionSize : Int32) (v_facts : Int32) (v_isSo : Int32) (v_common : Int32) (v_readFacts : Int32) (v_readSo : Int32) (v_readCommon : Int32) (v_readDay : Int32) (v_seed : Int64) (v_acts : Int32) (v_told : Int32) (v_question : (Nat → Int32)) (v_page : (Nat → Int32)) (v_book : (Nat → Int32)) (v_bookSeed : (Nat → Int64)) (v_stack : (Nat → Int32)) (v_yesOf : (Nat → Int32)) (v_noOf : (Nat → Int32)) (v_one : (Nat → Int32)) (o : Int32 × Int32 × Int32 × (Nat → Int32) × (Nat → Int32) × (Nat → Int64) × (Nat → Int32) × (Nat → Int32)) (hm : m_X10_ask v_thrown v_questionSize v_facts v_isSo v_seed v_acts v_question v_page v_book v_bookSeed v_stack v_yesOf v_noOf v_one = some o) : Met l yX10_ask wsX10_ask { frames := 5, cells := 0, slots := 0, locals := 132 } (va_Pc [.ref a_th] (cP (dC, dI) (kT cI cJ cZ cQ) t sz [oX10 a_th (.int v_thrown) q_text (.int v_textSize) (.int v_place) (.ref a_question) (.int v_questionSize) (.int v_facts) (.int v_isSo) (.int v_common) (.int v_readFacts) (.int v_readSo) (.int v_readCommon) (.int v_readDay) (.ref a_page) (.long v_seed) (.ref a_book) (.ref a_bookSeed) (.int v_acts) q_kept q_isKept (.int v_told) q_toldSimple q_toldDay q_toldYes (.ref a_yesOf) (.ref a_noOf) q_factOf (.ref a_stack) (.ref a_one) q_two q_three, aI cI a_question 16 v_question, aI cI a_page 12 v_page, aI cI a_book 120 v_book, aJ cJ a_bookSeed 10 v_bookSeed, aI cZ a_stack 17 v_stack, aI cI a_yesOf 931 v_yesOf, aI cI a_noOf 931 v_noOf, aI cI a_one 7 v_one])) (cQi (dC, dI) (va_A [oX10 a_th (.int v_thrown) q_text (.int v_textSize) (.int v_place) (.ref a_question) (.int v_questionSize) (.int v_facts) (.int v_isSo) (.int v_common) (.int v_readFacts) (.int v_readSo) (.int v_readCommon) (.int v_readDay) (.ref a_page) (.long v_seed) (.ref a_book) (.ref a_bookSeed) (.int v_acts) q_kept q_isKept (.int v_told) q_toldSimple q_toldDay q_toldYes (.ref a_yesOf) (.ref a_noOf) q_factOf (.ref a_stack) (.ref a_one) q_two q_three, aI cI a_question 16 v_question, aI cI a_page 12 v_page, aI cI a_book 120 v_book, aJ cJ a_bookSeed 10 v_bookSeed, aI cZ a_stack 17 v_stack, aI cI a_yesOf 931 v_yesOf, aI cI a_noOf 931 v_noOf, aI cI a_one 7 v_one] sz) o.1 [oX10 a_th (.int (o.2.1)) q_text (.int v_textSize) (.int v_place) (.ref a_question) (.int v_questionSize) (.int v_facts) (.int v_isSo) (.int v_common) (.int v_readFacts) (.int v_readSo) (.int v_readCommon) (.int v_readDay) (.ref a_page) (.long v_seed) (.ref a_book) (.ref a_bookSeed) (.int (o.2.2.1)) q_kept q_isKept (.int v_told) q_toldSimple q_toldDay q_toldYes (.ref a_yesOf) (.ref a_noOf) q_factOf (.ref a_stack) (.ref a_one) q_two q_three, aI cI a_question 16 v_question, aI cI a_page 12 (o.2.2.2.1), aI cI a_book 120 (o.2.2.2.2.1), aJ cJ a_bookSeed 10 (o.2.2.2.2.2.1), aI cZ a_stack 17 (o.2.2.2.2.2.2.1), aI cI a_yesOf 931 v_yesOf, aI cI a_noOf 931 v_noOf, aI cI a_one 7 (o.2.2.2.2.2.2.2)]) 0 0 (va_A [oX10 a_th (.int v_thrown) q_text (.int v_textSize) (.int v_place) (.ref a_question) (.int v_questionSize) (.int v_facts) (.int v_isSo) (.int v_common) (.int v_readFacts) (.int v_readSo) (.int v_readCommon) (.int v_readDay) (.ref a_page) (.long v_seed) (.ref a_book) (.ref a_bookSeed) (.int v_acts) q_kept q_isKept (.int v_told) q_toldSimple q_toldDay q_toldYes (.ref a_yesOf) (.ref a_noOf) q_factOf (.ref a_stack) (.ref a_one) q_two q_three, aI cI a_question 16 v_question, aI cI a_page 12 v_page, aI cI a_book 120 v_book, aJ cJ a_bookSeed 10 v_bookSeed, aI cZ a_stack 17 v_stack, aI cI a_yesOf 931 v_yesOf, aI cI a_noOf 931 v_noOf, aI cI a_one 7 v_one] sz) := by
  refine Met.ofW (cc := cX10_ask) (maxL := 3) (ret := (some .int)) (by decide) rfl ?_
  intro p e s m args below meth c s₁ B hml hv
  obtain ⟨rfl, hsz, hP, hK, hD0, hG⟩ := hv
  have hx := B.exec
  have hb := B.bytes
  have hr := B.returns
  have hts := atoms_spec (ws := wsX10_ask) B.pre
  have hown : s.vm.findClass RX10 = some m.cls := findClass_of_methodNamed B.named
  have hlocks := B.notSynchronized
  subst hsz
  have hD := hD0.self (sz := s.heap.size)
  generalize hAe : va_A [oX10 a_th (.int v_thrown) q_text (.int v_textSize) (.int v_place) (.ref a_question) (.int v_questionSize) (.int v_facts) (.int v_isSo) (.int v_common) (.int v_readFacts) (.int v_readSo) (.int v_readCommon) (.int v_readDay) (.ref a_page) (.long v_seed) (.ref a_book) (.ref a_bookSeed) (.int v_acts) q_kept q_isKept (.int v_told) q_toldSimple q_toldDay q_toldYes (.ref a_yesOf) (.ref a_noOf) q_factOf (.ref a_stack) (.ref a_one) q_two q_three, aI cI a_question 16 v_question, aI cI a_page 12 v_page, aI cI a_book 120 v_book, aJ cJ a_bookSeed 10 v_bookSeed, aI cZ a_stack 17 v_stack, aI cI a_yesOf 931 v_yesOf, aI cI a_noOf 931 v_noOf, aI cI a_one 7 v_one] s.heap.size = A at hD hG ⊢
  have hA : ∀ q : Nat, s.heap.size ≤ q → A q := fun q h => by rw [← hAe]; exact Or.inr h
  have hS : va_S A s.heap s.heap [] := va_S.rf
  have hl := lv_entry ([.ref a_th]) (n := 3) (Nat.le_of_ble_eq_true rfl)
  rw [lg_entry_eq]
  generalize (lg_sl ([.ref a_th]) ++ List.replicate (3 - (lg_sl ([.ref a_th])).length) Slot.unset).toArray = ls at hl ⊢
  have hl : lv_has ls 3 [(0, .ref a_th)] := hl
  have iX10 : ∀ w ∈ wsX100, w ∈ wsX10_ask := fun _ h => List.mem_cons_of_mem _ (List.mem_append_right _ h)
  have f66 := hts (.fieldLink RX10 66 "TrueOnceWeekModel" "thrown" "I") (by decide +kernel)
  have f16 := hts (.fieldLink RX10 16 "TrueOnceWeekModel" "page" "[I") (by decide +kernel)
  have f105 := hts (.fieldLink RX10 105 "TrueOnceWeekModel" "isSo" "I") (by decide +kernel)
  have f54 := hts (.fieldLink RX10 54 "TrueOnceWeekModel" "one" "[I") (by decide +kernel)
  refine kb_gen (fun Q hQ => ?_)
  unfold m_X10_ask at hm
  refine lv_aload_n hx hb dX10_ask_0 rfl (lv_at hl 0 rfl) ?_
  refine lv_iconst (v := (0 : Int32)) hx hb dX10_ask_1 (by decide) ?_
  refine va_put (D := (dC, dI)) (ci := 8) (v := .int (0 : Int32)) (ty := .int) (C := RX10) (T := TX10) (N := 31) hx hb hts iX10 tyX10 tyX10_ok nmX10 hown hK hP (kb_D hD rfl) hS 0 rfl rfl 0 (by decide) f66 (fun _ h9 => h9) rfl (by decide +kernel) rfl rfl (Nat.le_of_ble_eq_true rfl) dX10_ask_2 (fun H locs hP _ hS => ?_)
  have hP : va_P (dC, dI) vwCl [oX10 a_th (.int (0 : Int32)) q_text (.int v_textSize) (.int v_place) (.ref a_question) (.int v_questionSize) (.int v_facts) (.int v_isSo) (.int v_common) (.int v_readFacts) (.int v_readSo) (.int v_readCommon) (.int v_readDay) (.ref a_page) (.long v_seed) (.ref a_book) (.ref a_bookSeed) (.int v_acts) q_kept q_isKept (.int v_told) q_toldSimple q_toldDay q_toldYes (.ref a_yesOf) (.ref a_noOf) q_factOf (.ref a_stack) (.ref a_one) q_two q_three, aI cI a_question 16 v_question, aI cI a_page 12 v_page, aI cI a_book 120 v_book, aJ cJ a_bookSeed 10 v_bookSeed, aI cZ a_stack 17 v_stack, aI cI a_yesOf 931 v_yesOf, aI cI a_noOf 931 v_noOf, aI cI a_one 7 v_one] H := hP
  refine lv_aload_n hx hb dX10_ask_5 rfl (lv_at hl 0 rfl) ?_
  obtain ⟨r1, ho2, hm⟩ := bd1_s hm
  refine kb_calli (Rv := r1) (va_runV (As := []) (rest := []) ⟨hx, hb, hml, hown, hts⟩ (c_X10_slipOf l dC dI cI cJ cZ cQ t H.size a_th a_question q_text (.ref a_page) (.ref a_book) (.ref a_bookSeed) q_kept q_isKept q_toldSimple q_toldDay q_toldYes (.ref a_yesOf) (.ref a_noOf) q_factOf (.ref a_stack) (.ref a_one) q_two q_three (0 : Int32) v_textSize v_place v_questionSize v_facts v_isSo v_common v_readFacts v_readSo v_readCommon v_readDay v_seed v_acts v_told v_question (r1) ho2) (cwV 0 hts gX10_ask_X10_slipOf rfl rfl rfl (by decide +kernel) ⟨(Nat.le_of_ble_eq_true rfl), (Nat.le_of_ble_eq_true rfl)⟩) ⟨(kb_pre hK hG hP (kb_D hD rfl) hS hA [0, 1] rfl (by decide)).1, (va_recv hK hP (ci := 8) (q0 := 0) rfl rfl), (kb_pre hK hG hP (kb_D hD rfl) hS hA [0, 1] rfl (by decide)).2⟩ rfl rfl hl.1 rfl (lv_room (Nat.le_of_ble_eq_true rfl)) dX10_ask_6 ⟨Nat.zero_le _, Nat.zero_le _⟩) hP (kb_D hD rfl) hS hA [0, 1] rfl [(true, 0), (true, 1), (false, 2), (false, 3), (false, 4), (false, 5), (false, 6), (false, 7), (false, 8)] (w2 := [oX10 a_th (.int (0 : Int32)) q_text (.int v_textSize) (.int v_place) (.ref a_question) (.int v_questionSize) (.int v_facts) (.int v_isSo) (.int v_common) (.int v_readFacts) (.int v_readSo) (.int v_readCommon) (.int v_readDay) (.ref a_page) (.long v_seed) (.ref a_book) (.ref a_bookSeed) (.int v_acts) q_kept q_isKept (.int v_told) q_toldSimple q_toldDay q_toldYes (.ref a_yesOf) (.ref a_noOf) q_factOf (.ref a_stack) (.ref a_one) q_two q_three, aI cI a_question 16 v_question, aI cI a_page 12 v_page, aI cI a_book 120 v_book, aJ cJ a_bookSeed 10 v_bookSeed, aI cZ a_stack 17 v_stack, aI cI a_yesOf 931 v_yesOf, aI cI a_noOf 931 v_noOf, aI cI a_one 7 v_one]) rfl (by decide) (fun H locs hP hS => ?_)
  refine lv_bipush (v := (-9 : Int32)) hx hb dX10_ask_9 (by decide) ?_
  refine lv_icmp_ne (tgt := 46) hx hb dX10_ask_11 (by decide) (fun c3 => ?_) (fun c3 => ?_)
  · replace hm := ite_f c3 hm
    refine lv_bipush (v := (-3 : Int32)) hx hb dX10_ask_46 (by decide) ?_
    obtain rfl := Option.some.inj hm
    subst hQ
    exact W.iret hx hb hr (fun t ht hW => ⟨⟨_, (), rfl, rfl, kb_h hP ht⟩, hS.F ht⟩) hS.2.2 dX10_ask_48
  · replace hm := ite_t c3 hm
    refine lv_aload_n hx hb dX10_ask_14 rfl (lv_at hl 0 rfl) ?_
    refine va_get (D := (dC, dI)) (ci := 8) (v := .ref a_page) (C := RX10) (T := TX10) (N := 31) hx hb hts iX10 hown hK hP 0 rfl rfl 13 (by decide) f16 (fun _ h9 => h9) rfl dX10_ask_15 ?_
    refine lv_bipush (v := (9 : Int32)) hx hb dX10_ask_18 (by decide) ?_
    refine va_iald hx hb hK hP 2 0 rfl rfl (inB_s (by decide)) dX10_ask_20 ?_
    refine lv_iconst (v := (1 : Int32)) hx hb dX10_ask_21 (by decide) ?_
    refine lv_icmp_eq (tgt := 46) hx hb dX10_ask_22 (by decide) (fun c4 => ?_) (fun c4 => ?_)
    · replace hm := ite_t c4 hm
      refine lv_bipush (v := (-3 : Int32)) hx hb dX10_ask_46 (by decide) ?_
      obtain rfl := Option.some.inj hm
      subst hQ
      exact W.iret hx hb hr (fun t ht hW => ⟨⟨_, (), rfl, rfl, kb_h hP ht⟩, hS.F ht⟩) hS.2.2 dX10_ask_48
    · replace hm := ite_f c4 hm
      refine lv_aload_n hx hb dX10_ask_25 rfl (lv_at hl 0 rfl) ?_
      refine va_get (D := (dC, dI)) (ci := 8) (v := .ref a_page) (C := RX10) (T := TX10) (N := 31) hx hb hts iX10 hown hK hP 0 rfl rfl 13 (by decide) f16 (fun _ h9 => h9) rfl dX10_ask_26 ?_
      refine lv_bipush (v := (10 : Int32)) hx hb dX10_ask_29 (by decide) ?_
      refine va_iald hx hb hK hP 2 0 rfl rfl (inB_s (by decide)) dX10_ask_31 ?_
      refine lv_if_ne (tgt := 46) hx hb dX10_ask_32 (by decide) (fun c5 => ?_) (fun c5 => ?_)
      · replace hm := ite_f c5 hm
        refine lv_bipush (v := (-3 : Int32)) hx hb dX10_ask_46 (by decide) ?_
        obtain rfl := Option.some.inj hm
        subst hQ
        exact W.iret hx hb hr (fun t ht hW => ⟨⟨_, (), rfl, rfl, kb_h hP ht⟩, hS.F ht⟩) hS.2.2 dX10_ask_48
      · replace hm := ite_t c5 hm
        refine lv_aload_n hx hb dX10_ask_35 rfl (lv_at hl 0 rfl) ?_
        refine va_get (D := (dC, dI)) (ci := 8) (v := .ref a_page) (C := RX10) (T := TX10) (N := 31) hx hb hts iX10 hown hK hP 0 rfl rfl 13 (by decide) f16 (fun _ h9 => h9) rfl dX10_ask_36 ?_
        refine lv_bipush (v := (11 : Int32)) hx hb dX10_ask_39 (by decide) ?_
        refine va_iald hx hb hK hP 2 0 rfl rfl (inB_s (by decide)) dX10_ask_41 ?_
        refine lv_iconst (v := (3 : Int32)) hx hb dX10_ask_42 (by decide) ?_
        refine lv_icmp_ne (tgt := 49) hx hb dX10_ask_43 (by decide) (fun c6 => ?_) (fun c6 => ?_)
        · replace hm := ite_f c6 hm
          refine lv_aload_n hx hb dX10_ask_49 rfl (lv_at hl 0 rfl) ?_
          obtain ⟨w7, w8, w9, ho10, hm⟩ := bd3_s hm
          refine kb_callv (va_runV (As := []) (rest := []) ⟨hx, hb, hml, hown, hts⟩ (c_X10_note l dC dI cI cJ cZ cQ t H.size a_th a_book a_page a_bookSeed q_text (.ref a_question) q_kept q_isKept q_toldSimple q_toldDay q_toldYes (.ref a_yesOf) (.ref a_noOf) q_factOf (.ref a_stack) (.ref a_one) q_two q_three (0 : Int32) v_textSize v_place v_questionSize v_facts v_isSo v_common v_readFacts v_readSo v_readCommon v_readDay v_seed v_acts v_told v_book v_page v_bookSeed (w7, w8, w9) ho10) (cwV 0 hts gX10_ask_X10_note rfl rfl rfl (by decide +kernel) ⟨(Nat.le_of_ble_eq_true rfl), (Nat.le_of_ble_eq_true rfl)⟩) ⟨(kb_pre hK hG hP (kb_D hD rfl) hS hA [0, 3, 2, 4] rfl (by decide)).1, (va_recv hK hP (ci := 8) (q0 := 0) rfl rfl), (kb_pre hK hG hP (kb_D hD rfl) hS hA [0, 3, 2, 4] rfl (by decide)).2⟩ rfl rfl hl.1 rfl (lv_room (Nat.le_of_ble_eq_true rfl)) dX10_ask_50 ⟨Nat.zero_le _, Nat.zero_le _⟩) hP (kb_D hD rfl) hS hA [0, 3, 2, 4] rfl [(true, 0), (false, 1), (true, 2), (true, 1), (true, 3), (false, 5), (false, 6), (false, 7), (false, 8)] (w2 := [oX10 a_th (.int (0 : Int32)) q_text (.int v_textSize) (.int v_place) (.ref a_question) (.int v_questionSize) (.int v_facts) (.int v_isSo) (.int v_common) (.int v_readFacts) (.int v_readSo) (.int v_readCommon) (.int v_readDay) (.ref a_page) (.long v_seed) (.ref a_book) (.ref a_bookSeed) (.int w7) q_kept q_isKept (.int v_told) q_toldSimple q_toldDay q_toldYes (.ref a_yesOf) (.ref a_noOf) q_factOf (.ref a_stack) (.ref a_one) q_two q_three, aI cI a_question 16 v_question, aI cI a_page 12 v_page, aI cI a_book 120 w8, aJ cJ a_bookSeed 10 w9, aI cZ a_stack 17 v_stack, aI cI a_yesOf 931 v_yesOf, aI cI a_noOf 931 v_noOf, aI cI a_one 7 v_one]) rfl (by decide) (fun H locs hP hS => ?_)
          refine lv_aload_n hx hb dX10_ask_53 rfl (lv_at hl 0 rfl) ?_
          refine lv_bipush (v := (-9 : Int32)) hx hb dX10_ask_54 (by decide) ?_
          refine lv_aload_n hx hb dX10_ask_56 rfl (lv_at hl 0 rfl) ?_
          refine va_get (D := (dC, dI)) (ci := 8) (v := .ref a_page) (C := RX10) (T := TX10) (N := 31) hx hb hts iX10 hown hK hP 0 rfl rfl 13 (by decide) f16 (fun _ h9 => h9) rfl dX10_ask_57 ?_
          refine lv_bipush (v := (7 : Int32)) hx hb dX10_ask_60 (by decide) ?_
          refine va_iald hx hb hK hP 2 0 rfl rfl (inB_s (by decide)) dX10_ask_62 ?_
          refine lv_aload_n hx hb dX10_ask_63 rfl (lv_at hl 0 rfl) ?_
          refine va_get (D := (dC, dI)) (ci := 8) (v := .ref a_page) (C := RX10) (T := TX10) (N := 31) hx hb hts iX10 hown hK hP 0 rfl rfl 13 (by decide) f16 (fun _ h9 => h9) rfl dX10_ask_64 ?_
          refine lv_bipush (v := (8 : Int32)) hx hb dX10_ask_67 (by decide) ?_
          refine va_iald hx hb hK hP 2 0 rfl rfl (inB_s (by decide)) dX10_ask_69 ?_
          refine lv_aload_n hx hb dX10_ask_70 rfl (lv_at hl 0 rfl) ?_
          refine va_get (D := (dC, dI)) (ci := 8) (v := .ref a_page) (C := RX10) (T := TX10) (N := 31) hx hb hts iX10 hown hK hP 0 rfl rfl 13 (by decide) f16 (fun _ h9 => h9) rfl dX10_ask_71 ?_
          refine lv_bipush (v := (8 : Int32)) hx hb dX10_ask_74 (by decide) ?_
          refine va_iald hx hb hK hP 2 0 rfl rfl (inB_s (by decide)) dX10_ask_76 ?_
          refine lv_aload_n hx hb dX10_ask_77 rfl (lv_at hl 0 rfl) ?_
          refine va_get (D := (dC, dI)) (ci := 8) (v := .int v_isSo) (C := RX10) (T := TX10) (N := 31) hx hb hts iX10 hown hK hP 0 rfl rfl 7 (by decide) f105 (fun _ h9 => h9) rfl dX10_ask_78 ?_
          obtain ⟨r11, w12, ho13, hm⟩ := bd2_s hm
          refine kb_calli (Rv := r11) (va_runV (As := [.int (-9 : Int32), .int (v_page (Int32.toNatClampNeg (7 : Int32))), .int (v_page (Int32.toNatClampNeg (8 : Int32))), .int (v_page (Int32.toNatClampNeg (8 : Int32))), .int v_isSo]) (rest := []) ⟨hx, hb, hml, hown, hts⟩ (c_X10_answerOf l dC dI cI cJ cZ cQ t H.size a_th a_question a_stack q_text (.ref a_page) (.ref a_book) (.ref a_bookSeed) q_kept q_isKept q_toldSimple q_toldDay q_toldYes (.ref a_yesOf) (.ref a_noOf) q_factOf (.ref a_one) q_two q_three (0 : Int32) v_textSize v_place v_questionSize v_facts v_isSo v_common v_readFacts v_readSo v_readCommon v_readDay v_seed w7 v_told v_question v_stack (-9 : Int32) (v_page (Int32.toNatClampNeg (7 : Int32))) (v_page (Int32.toNatClampNeg (8 : Int32))) (v_page (Int32.toNatClampNeg (8 : Int32))) v_isSo (r11, w12) ho13) (cwV 5 hts gX10_ask_X10_answerOf rfl rfl rfl (by decide +kernel) ⟨(Nat.le_of_ble_eq_true rfl), (Nat.le_of_ble_eq_true rfl)⟩) ⟨(kb_pre hK hG hP (kb_D hD rfl) hS hA [0, 1, 5] rfl (by decide)).1, (va_recv hK hP (ci := 8) (q0 := 0) rfl rfl), (kb_pre hK hG hP (kb_D hD rfl) hS hA [0, 1, 5] rfl (by decide)).2⟩ rfl rfl hl.1 rfl (lv_room (Nat.le_of_ble_eq_true rfl)) dX10_ask_81 ⟨Nat.zero_le _, Nat.zero_le _⟩) hP (kb_D hD rfl) hS hA [0, 1, 5] rfl [(true, 0), (true, 1), (false, 2), (false, 3), (false, 4), (true, 2), (false, 6), (false, 7), (false, 8)] (w2 := [oX10 a_th (.int (0 : Int32)) q_text (.int v_textSize) (.int v_place) (.ref a_question) (.int v_questionSize) (.int v_facts) (.int v_isSo) (.int v_common) (.int v_readFacts) (.int v_readSo) (.int v_readCommon) (.int v_readDay) (.ref a_page) (.long v_seed) (.ref a_book) (.ref a_bookSeed) (.int w7) q_kept q_isKept (.int v_told) q_toldSimple q_toldDay q_toldYes (.ref a_yesOf) (.ref a_noOf) q_factOf (.ref a_stack) (.ref a_one) q_two q_three, aI cI a_question 16 v_question, aI cI a_page 12 v_page, aI cI a_book 120 w8, aJ cJ a_bookSeed 10 w9, aI cZ a_stack 17 w12, aI cI a_yesOf 931 v_yesOf, aI cI a_noOf 931 v_noOf, aI cI a_one 7 v_one]) rfl (by decide) (fun H locs hP hS => ?_)
          refine lv_istore_n (lv' := [(1, .int r11), (0, .ref a_th)]) hx hb dX10_ask_84 rfl hl (by decide) rfl (fun ls hl => ?_)
          refine lv_aload_n hx hb dX10_ask_85 rfl (lv_at hl 1 rfl) ?_
          refine lv_aload_n hx hb dX10_ask_86 rfl (lv_at hl 1 rfl) ?_
          refine va_get (D := (dC, dI)) (ci := 8) (v := .ref a_page) (C := RX10) (T := TX10) (N := 31) hx hb hts iX10 hown hK hP 0 rfl rfl 13 (by decide) f16 (fun _ h9 => h9) rfl dX10_ask_87 ?_
          refine lv_bipush (v := (-9 : Int32)) hx hb dX10_ask_90 (by decide) ?_
          refine lv_aload_n hx hb dX10_ask_92 rfl (lv_at hl 1 rfl) ?_
          refine va_get (D := (dC, dI)) (ci := 8) (v := .ref a_page) (C := RX10) (T := TX10) (N := 31) hx hb hts iX10 hown hK hP 0 rfl rfl 13 (by decide) f16 (fun _ h9 => h9) rfl dX10_ask_93 ?_
          refine lv_bipush (v := (7 : Int32)) hx hb dX10_ask_96 (by decide) ?_
          refine va_iald hx hb hK hP 2 0 rfl rfl (inB_s (by decide)) dX10_ask_98 ?_
          refine lv_iload_n hx hb dX10_ask_99 rfl (lv_at hl 0 rfl) ?_
          refine lv_aload_n hx hb dX10_ask_100 rfl (lv_at hl 1 rfl) ?_
          refine va_get (D := (dC, dI)) (ci := 8) (v := .ref a_one) (C := RX10) (T := TX10) (N := 31) hx hb hts iX10 hown hK hP 0 rfl rfl 28 (by decide) f54 (fun _ h9 => h9) rfl dX10_ask_101 ?_
          obtain ⟨w14, w15, ho16, hm⟩ := bd2_s hm
          refine kb_callv (va_runV (As := [.ref a_page, .int (-9 : Int32), .int (v_page (Int32.toNatClampNeg (7 : Int32))), .int r11, .ref a_one]) (rest := []) ⟨hx, hb, hml, hown, hts⟩ (c_X10_part l dC dI cI cJ cZ cQ t H.size a_th a_page a_question a_stack a_yesOf a_noOf a_one 12 7 q_text (.ref a_page) (.ref a_book) (.ref a_bookSeed) q_kept q_isKept q_toldSimple q_toldDay q_toldYes q_factOf (.ref a_one) q_two q_three (0 : Int32) v_textSize v_place v_questionSize v_facts v_isSo v_common v_readFacts v_readSo v_readCommon v_readDay v_seed w7 v_told v_page v_question w12 v_yesOf v_noOf v_one (-9 : Int32) (v_page (Int32.toNatClampNeg (7 : Int32))) r11 (w14, w15) ho16) (cwV 5 hts gX10_ask_X10_part rfl rfl rfl (by decide +kernel) ⟨(Nat.le_of_ble_eq_true rfl), (Nat.le_of_ble_eq_true rfl)⟩) ⟨(kb_pre hK hG hP (kb_D hD rfl) hS hA [0, 2, 1, 5, 6, 7, 8] rfl (by decide)).1, (va_recv hK hP (ci := 8) (q0 := 0) rfl rfl), (kb_pre hK hG hP (kb_D hD rfl) hS hA [0, 2, 1, 5, 6, 7, 8] rfl (by decide)).2⟩ rfl rfl hl.1 rfl (lv_room (Nat.le_of_ble_eq_true rfl)) dX10_ask_104 ⟨Nat.zero_le _, Nat.zero_le _⟩) hP (kb_D hD rfl) hS hA [0, 2, 1, 5, 6, 7, 8] rfl [(true, 0), (true, 2), (true, 1), (false, 3), (false, 4), (true, 3), (true, 4), (true, 5), (true, 6)] (w2 := [oX10 a_th (.int (0 : Int32)) q_text (.int v_textSize) (.int v_place) (.ref a_question) (.int v_questionSize) (.int v_facts) (.int v_isSo) (.int v_common) (.int v_readFacts) (.int v_readSo) (.int v_readCommon) (.int v_readDay) (.ref a_page) (.long v_seed) (.ref a_book) (.ref a_bookSeed) (.int w7) q_kept q_isKept (.int v_told) q_toldSimple q_toldDay q_toldYes (.ref a_yesOf) (.ref a_noOf) q_factOf (.ref a_stack) (.ref a_one) q_two q_three, aI cI a_question 16 v_question, aI cI a_page 12 v_page, aI cI a_book 120 w8, aJ cJ a_bookSeed 10 w9, aI cZ a_stack 17 w14, aI cI a_yesOf 931 v_yesOf, aI cI a_noOf 931 v_noOf, aI cI a_one 7 w15]) rfl (by decide) (fun H locs hP hS => ?_)
          refine lv_iconst (v := (0 : Int32)) hx hb dX10_ask_107 (by decide) ?_
          refine lv_istore_n (lv' := [(2, .int (0 : Int32)), (1, .int r11), (0, .ref a_th)]) hx hb dX10_ask_108 rfl hl (by decide) rfl (fun ls hl => ?_)
          have lp109 : ∀ (n109 : Nat) (x17 : Int32) (w18 : (Nat → Int32)) (k109 : (Nat → Int32) → Option (Int32 × Int32 × Int32 × (Nat → Int32) × (Nat → Int32) × (Nat → Int64) × (Nat → Int32) × (Nat → Int32))) (H : Heap) (locs : List Loc) (ls : Array Slot), L_X10_ask_109 w15 n109 x17 w18 k109 = some o → (∀ (w19 : (Nat → Int32)) (H : Heap) (locs : List Loc) (ls : Array Slot), k109 w19 = some o → va_P (dC, dI) vwCl [oX10 a_th (.int (0 : Int32)) q_text (.int v_textSize) (.int v_place) (.ref a_question) (.int v_questionSize) (.int v_facts) (.int v_isSo) (.int v_common) (.int v_readFacts) (.int v_readSo) (.int v_readCommon) (.int v_readDay) (.ref a_page) (.long v_seed) (.ref a_book) (.ref a_bookSeed) (.int w7) q_kept q_isKept (.int v_told) q_toldSimple q_toldDay q_toldYes (.ref a_yesOf) (.ref a_noOf) q_factOf (.ref a_stack) (.ref a_one) q_two q_three, aI cI a_question 16 v_question, aI cI a_page 12 w19, aI cI a_book 120 w8, aJ cJ a_bookSeed 10 w9, aI cZ a_stack 17 w14, aI cI a_yesOf 931 v_yesOf, aI cI a_noOf 931 v_noOf, aI cI a_one 7 w15] H → va_S A s.heap H locs → lv_has ls 3 [(0, .ref a_th), (1, .int r11)] → W p l e (headSpec wsX10_ask { frames := 5, cells := 0, slots := 0, locals := 132 }).room s m [.ref a_th].toArray below meth c H locs 0 0 Q (F0 m 133 ls [])) → va_P (dC, dI) vwCl [oX10 a_th (.int (0 : Int32)) q_text (.int v_textSize) (.int v_place) (.ref a_question) (.int v_questionSize) (.int v_facts) (.int v_isSo) (.int v_common) (.int v_readFacts) (.int v_readSo) (.int v_readCommon) (.int v_readDay) (.ref a_page) (.long v_seed) (.ref a_book) (.ref a_bookSeed) (.int w7) q_kept q_isKept (.int v_told) q_toldSimple q_toldDay q_toldYes (.ref a_yesOf) (.ref a_noOf) q_factOf (.ref a_stack) (.ref a_one) q_two q_three, aI cI a_question 16 v_question, aI cI a_page 12 w18, aI cI a_book 120 w8, aJ cJ a_bookSeed 10 w9, aI cZ a_stack 17 w14, aI cI a_yesOf 931 v_yesOf, aI cI a_noOf 931 v_noOf, aI cI a_one 7 w15] H → va_S A s.heap H locs → lv_has ls 3 [(0, .ref a_th), (1, .int r11), (2, .int x17)] → W p l e (headSpec wsX10_ask { frames := 5, cells := 0, slots := 0, locals := 132 }).room s m [.ref a_th].toArray below meth c H locs 0 0 Q (F0 m 109 ls []) := by
            intro n109
            induction n109 with
            | zero =>
              intro x17 w18 k109 H locs ls hm
              cases (show (none : Option (Int32 × Int32 × Int32 × (Nat → Int32) × (Nat → Int32) × (Nat → Int64) × (Nat → Int32) × (Nat → Int32))) = some o from hm)
            | succ n109 ih109 =>
              intro x17 w18 k109 H locs ls hm hk109 hP hS hl
              rw [L_X10_ask_109.eq_2] at hm
              refine lv_iload_n hx hb dX10_ask_109 rfl (lv_at hl 2 rfl) ?_
              refine lv_bipush (v := (7 : Int32)) hx hb dX10_ask_110 (by decide) ?_
              refine lv_icmp_ge (tgt := 133) hx hb dX10_ask_112 (by decide) (fun c20 => ?_) (fun c20 => ?_)
              · replace hm := ite_t c20 hm
                exact hk109 w18 _ _ _ hm hP hS (lv_sub hl [0, 1] rfl)
              · replace hm := ite_f c20 hm
                refine lv_aload_n hx hb dX10_ask_115 rfl (lv_at hl 0 rfl) ?_
                refine va_get (D := (dC, dI)) (ci := 8) (v := .ref a_page) (C := RX10) (T := TX10) (N := 31) hx hb hts iX10 hown hK hP 0 rfl rfl 13 (by decide) f16 (fun _ h9 => h9) rfl dX10_ask_116 ?_
                refine lv_iload_n hx hb dX10_ask_119 rfl (lv_at hl 2 rfl) ?_
                refine lv_aload_n hx hb dX10_ask_120 rfl (lv_at hl 0 rfl) ?_
                refine va_get (D := (dC, dI)) (ci := 8) (v := .ref a_one) (C := RX10) (T := TX10) (N := 31) hx hb hts iX10 hown hK hP 0 rfl rfl 28 (by decide) f54 (fun _ h9 => h9) rfl dX10_ask_121 ?_
                refine lv_iload_n hx hb dX10_ask_124 rfl (lv_at hl 2 rfl) ?_
                obtain ⟨h21, hm⟩ := gd_s hm
                refine va_iald hx hb hK hP 8 0 rfl rfl (inB_s h21) dX10_ask_125 ?_
                obtain ⟨h22, hm⟩ := gd_s hm
                refine va_iast hx hb hK hP (kb_D hD rfl) hS 2 0 rfl rfl (inB_s h22) dX10_ask_126 (fun H locs hP _ hS => ?_)
                have hP : va_P (dC, dI) vwCl [oX10 a_th (.int (0 : Int32)) q_text (.int v_textSize) (.int v_place) (.ref a_question) (.int v_questionSize) (.int v_facts) (.int v_isSo) (.int v_common) (.int v_readFacts) (.int v_readSo) (.int v_readCommon) (.int v_readDay) (.ref a_page) (.long v_seed) (.ref a_book) (.ref a_bookSeed) (.int w7) q_kept q_isKept (.int v_told) q_toldSimple q_toldDay q_toldYes (.ref a_yesOf) (.ref a_noOf) q_factOf (.ref a_stack) (.ref a_one) q_two q_three, aI cI a_question 16 v_question, aI cI a_page 12 (upd w18 (Int32.toNatClampNeg x17) (w15 (Int32.toNatClampNeg x17))), aI cI a_book 120 w8, aJ cJ a_bookSeed 10 w9, aI cZ a_stack 17 w14, aI cI a_yesOf 931 v_yesOf, aI cI a_noOf 931 v_noOf, aI cI a_one 7 w15] H := hP
                obtain ⟨x23, ex23⟩ : ∃ y : Int32, y = x17 + (1 : Int32) := ⟨_, rfl⟩
                replace hm := nm_t ex23 hm
                refine lv_iinc (v := x23) (lv' := [(2, .int x23), (0, .ref a_th), (1, .int r11)]) hx hb dX10_ask_127 hl (k := 2) rfl (by rw [ex23]; rfl) (by decide) rfl (fun ls hl => ?_)
                refine lv_goto (tgt := 109) hx hb dX10_ask_130 (by decide) ?_
                exact ih109 x23 (upd w18 (Int32.toNatClampNeg x17) (w15 (Int32.toNatClampNeg x17))) k109 _ _ _ hm hk109 hP hS (lv_sub hl [1, 2, 0] rfl)
          refine lp109 1024 (0 : Int32) v_page _ _ _ _ hm (fun w19 H locs ls hm hP hS hl => ?_) hP hS (lv_sub hl [2, 1, 0] rfl)
          refine lv_aload_n hx hb dX10_ask_133 rfl (lv_at hl 0 rfl) ?_
          refine va_get (D := (dC, dI)) (ci := 8) (v := .ref a_page) (C := RX10) (T := TX10) (N := 31) hx hb hts iX10 hown hK hP 0 rfl rfl 13 (by decide) f16 (fun _ h9 => h9) rfl dX10_ask_134 ?_
          refine lv_bipush (v := (9 : Int32)) hx hb dX10_ask_137 (by decide) ?_
          refine lv_iconst (v := (1 : Int32)) hx hb dX10_ask_139 (by decide) ?_
          refine va_iast hx hb hK hP (kb_D hD rfl) hS 2 0 rfl rfl (inB_s (by decide)) dX10_ask_140 (fun H locs hP _ hS => ?_)
          have hP : va_P (dC, dI) vwCl [oX10 a_th (.int (0 : Int32)) q_text (.int v_textSize) (.int v_place) (.ref a_question) (.int v_questionSize) (.int v_facts) (.int v_isSo) (.int v_common) (.int v_readFacts) (.int v_readSo) (.int v_readCommon) (.int v_readDay) (.ref a_page) (.long v_seed) (.ref a_book) (.ref a_bookSeed) (.int w7) q_kept q_isKept (.int v_told) q_toldSimple q_toldDay q_toldYes (.ref a_yesOf) (.ref a_noOf) q_factOf (.ref a_stack) (.ref a_one) q_two q_three, aI cI a_question 16 v_question, aI cI a_page 12 (upd w19 (Int32.toNatClampNeg (9 : Int32)) (1 : Int32)), aI cI a_book 120 w8, aJ cJ a_bookSeed 10 w9, aI cZ a_stack 17 w14, aI cI a_yesOf 931 v_yesOf, aI cI a_noOf 931 v_noOf, aI cI a_one 7 w15] H := hP
          refine lv_aload_n hx hb dX10_ask_141 rfl (lv_at hl 0 rfl) ?_
          refine va_get (D := (dC, dI)) (ci := 8) (v := .ref a_page) (C := RX10) (T := TX10) (N := 31) hx hb hts iX10 hown hK hP 0 rfl rfl 13 (by decide) f16 (fun _ h9 => h9) rfl dX10_ask_142 ?_
          refine lv_bipush (v := (11 : Int32)) hx hb dX10_ask_145 (by decide) ?_
          refine lv_dup2_11 hx hb dX10_ask_147 rfl rfl ?_
          refine va_iald hx hb hK hP 2 0 rfl rfl (inB_s (by decide)) dX10_ask_148 ?_
          refine lv_iload_n hx hb dX10_ask_149 rfl (lv_at hl 1 rfl) ?_
          refine lv_bipush (v := (-9 : Int32)) hx hb dX10_ask_150 (by decide) ?_
          obtain ⟨k160, ek160, hm⟩ := nm_s hm
          have J160 : ∀ (x24 : Int32) (H : Heap) (locs : List Loc) (ls : Array Slot), k160 x24 = some o → va_P (dC, dI) vwCl [oX10 a_th (.int (0 : Int32)) q_text (.int v_textSize) (.int v_place) (.ref a_question) (.int v_questionSize) (.int v_facts) (.int v_isSo) (.int v_common) (.int v_readFacts) (.int v_readSo) (.int v_readCommon) (.int v_readDay) (.ref a_page) (.long v_seed) (.ref a_book) (.ref a_bookSeed) (.int w7) q_kept q_isKept (.int v_told) q_toldSimple q_toldDay q_toldYes (.ref a_yesOf) (.ref a_noOf) q_factOf (.ref a_stack) (.ref a_one) q_two q_three, aI cI a_question 16 v_question, aI cI a_page 12 (upd w19 (Int32.toNatClampNeg (9 : Int32)) (1 : Int32)), aI cI a_book 120 w8, aJ cJ a_bookSeed 10 w9, aI cZ a_stack 17 w14, aI cI a_yesOf 931 v_yesOf, aI cI a_noOf 931 v_noOf, aI cI a_one 7 w15] H → va_S A s.heap H locs → lv_has ls 3 [(1, .int r11)] → W p l e (headSpec wsX10_ask { frames := 5, cells := 0, slots := 0, locals := 132 }).room s m [.ref a_th].toArray below meth c H locs 0 0 Q (F0 m 160 ls [.int x24, .int ((upd w19 (Int32.toNatClampNeg (9 : Int32)) (1 : Int32)) (Int32.toNatClampNeg (11 : Int32))), .int (11 : Int32), .ref a_page]) := by
            intro x24 H locs ls hm hP hS hl
            rw [ek160] at hm
            refine lv_iadd hx hb dX10_ask_160 ?_
            refine lv_topi (fun x25 ex25 => ?_)
            replace hm := nm_t ex25 hm
            refine va_iast hx hb hK hP (kb_D hD rfl) hS 2 0 rfl rfl (inB_s (by decide)) dX10_ask_161 (fun H locs hP _ hS => ?_)
            have hP : va_P (dC, dI) vwCl [oX10 a_th (.int (0 : Int32)) q_text (.int v_textSize) (.int v_place) (.ref a_question) (.int v_questionSize) (.int v_facts) (.int v_isSo) (.int v_common) (.int v_readFacts) (.int v_readSo) (.int v_readCommon) (.int v_readDay) (.ref a_page) (.long v_seed) (.ref a_book) (.ref a_bookSeed) (.int w7) q_kept q_isKept (.int v_told) q_toldSimple q_toldDay q_toldYes (.ref a_yesOf) (.ref a_noOf) q_factOf (.ref a_stack) (.ref a_one) q_two q_three, aI cI a_question 16 v_question, aI cI a_page 12 (upd (upd w19 (Int32.toNatClampNeg (9 : Int32)) (1 : Int32)) (Int32.toNatClampNeg (11 : Int32)) x25), aI cI a_book 120 w8, aJ cJ a_bookSeed 10 w9, aI cZ a_stack 17 w14, aI cI a_yesOf 931 v_yesOf, aI cI a_noOf 931 v_noOf, aI cI a_one 7 w15] H := hP
            refine lv_iload_n hx hb dX10_ask_162 rfl (lv_at hl 0 rfl) ?_
            obtain rfl := Option.some.inj hm
            subst hQ
            exact W.iret hx hb hr (fun t ht hW => ⟨⟨_, (), rfl, rfl, kb_h hP ht⟩, hS.F ht⟩) hS.2.2 dX10_ask_163
          refine lv_icmp_ne (tgt := 159) hx hb dX10_ask_152 (by decide) (fun c26 => ?_) (fun c26 => ?_)
          · replace hm := ite_f c26 hm
            refine lv_iconst (v := (0 : Int32)) hx hb dX10_ask_159 (by decide) ?_
            exact J160 (0 : Int32) _ _ _ hm hP hS (lv_sub hl [1] rfl)
          · replace hm := ite_t c26 hm
            refine lv_iconst (v := (1 : Int32)) hx hb dX10_ask_155 (by decide) ?_
            refine lv_goto (tgt := 160) hx hb dX10_ask_156 (by decide) ?_
            exact J160 (1 : Int32) _ _ _ hm hP hS (lv_sub hl [1] rfl)
        · replace hm := ite_t c6 hm
          refine lv_bipush (v := (-3 : Int32)) hx hb dX10_ask_46 (by decide) ?_
          obtain rfl := Option.some.inj hm
          subst hQ
          exact W.iret hx hb hr (fun t ht hW => ⟨⟨_, (), rfl, rfl, kb_h hP ht⟩, hS.F ht⟩) hS.2.2 dX10_ask_48
set_option maxHeartbeats 4000000 in
set_option maxRecDepth 100000 in
theorem c_X10_drawDay (l : Launch) (dC : Nat → ClassId) (dI : Nat → Nat → Nat) (cI cJ cZ cQ : ClassId) (t sz : Nat) (a_th : Nat) (q_text : Value) (q_question : Value) (q_page : Value) (q_book : Value) (q_bookSeed : Value) (q_kept : Value) (q_isKept : Value) (q_toldSimple : Value) (q_toldDay : Value) (q_toldYes : Value) (q_yesOf : Value) (q_noOf : Value) (q_factOf : Value) (q_stack : Value) (q_one : Value) (q_two : Value) (q_three : Value) (v_thrown : Int32) (v_textSize : Int32) (v_place : Int32) (v_questionSize : Int32) (v_facts : Int32) (v_isSo : Int32) (v_common : Int32) (v_readFacts : Int32) (v_readSo : Int32) (v_readCommon : Int32) (v_readDay : Int32) (v_seed : Int64) (v_acts : Int32) (v_told : Int32) (o : Int32 × Int64) (hm : m_X10_drawDay v_seed = some o) : Met l yX10_drawDay wsX10_drawDay { frames := 0, cells := 0, slots := 0, locals := 0 } (va_Pc [.ref a_th] (cP (dC, dI) (kT cI cJ cZ cQ) t sz [oX10 a_th (.int v_thrown) q_text (.int v_textSize) (.int v_place) q_question (.int v_questionSize) (.int v_facts) (.int v_isSo) (.int v_common) (.int v_readFacts) (.int v_readSo) (.int v_readCommon) (.int v_readDay) q_page (.long v_seed) q_book q_bookSeed (.int v_acts) q_kept q_isKept (.int v_told) q_toldSimple q_toldDay q_toldYes q_yesOf q_noOf q_factOf q_stack q_one q_two q_three])) (cQi (dC, dI) (va_A [oX10 a_th (.int v_thrown) q_text (.int v_textSize) (.int v_place) q_question (.int v_questionSize) (.int v_facts) (.int v_isSo) (.int v_common) (.int v_readFacts) (.int v_readSo) (.int v_readCommon) (.int v_readDay) q_page (.long v_seed) q_book q_bookSeed (.int v_acts) q_kept q_isKept (.int v_told) q_toldSimple q_toldDay q_toldYes q_yesOf q_noOf q_factOf q_stack q_one q_two q_three] sz) o.1 [oX10 a_th (.int v_thrown) q_text (.int v_textSize) (.int v_place) q_question (.int v_questionSize) (.int v_facts) (.int v_isSo) (.int v_common) (.int v_readFacts) (.int v_readSo) (.int v_readCommon) (.int v_readDay) q_page (.long (o.2)) q_book q_bookSeed (.int v_acts) q_kept q_isKept (.int v_told) q_toldSimple q_toldDay q_toldYes q_yesOf q_noOf q_factOf q_stack q_one q_two q_three]) 0 0 (va_A [oX10 a_th (.int v_thrown) q_text (.int v_textSize) (.int v_place) q_question (.int v_questionSize) (.int v_facts) (.int v_isSo) (.int v_common) (.int v_readFacts) (.int v_readSo) (.int v_readCommon) (.int v_readDay) q_page (.long v_seed) q_book q_bookSeed (.int v_acts) q_kept q_isKept (.int v_told) q_toldSimple q_toldDay q_toldYes q_yesOf q_noOf q_factOf q_stack q_one q_two q_three] sz) := by
  refine Met.ofW (cc := cX10_drawDay) (maxL := 1) (ret := (some .int)) (by decide) rfl ?_
  intro p e s m args below meth c s₁ B hml hv
  obtain ⟨rfl, hsz, hP, hK, hD0, hG⟩ := hv
  have hx := B.exec
  have hb := B.bytes
  have hr := B.returns
  have hts := atoms_spec (ws := wsX10_drawDay) B.pre
  have hown : s.vm.findClass RX10 = some m.cls := findClass_of_methodNamed B.named
  have hlocks := B.notSynchronized
  subst hsz
  have hD := hD0.self (sz := s.heap.size)
  generalize hAe : va_A [oX10 a_th (.int v_thrown) q_text (.int v_textSize) (.int v_place) q_question (.int v_questionSize) (.int v_facts) (.int v_isSo) (.int v_common) (.int v_readFacts) (.int v_readSo) (.int v_readCommon) (.int v_readDay) q_page (.long v_seed) q_book q_bookSeed (.int v_acts) q_kept q_isKept (.int v_told) q_toldSimple q_toldDay q_toldYes q_yesOf q_noOf q_factOf q_stack q_one q_two q_three] s.heap.size = A at hD hG ⊢
  have hA : ∀ q : Nat, s.heap.size ≤ q → A q := fun q h => by rw [← hAe]; exact Or.inr h
  have hS : va_S A s.heap s.heap [] := va_S.rf
  have hl := lv_entry ([.ref a_th]) (n := 1) (Nat.le_of_ble_eq_true rfl)
  rw [lg_entry_eq]
  generalize (lg_sl ([.ref a_th]) ++ List.replicate (1 - (lg_sl ([.ref a_th])).length) Slot.unset).toArray = ls at hl ⊢
  have hl : lv_has ls 1 [(0, .ref a_th)] := hl
  have iX10 : ∀ w ∈ wsX100, w ∈ wsX10_drawDay := fun _ h => List.mem_cons_of_mem _ (List.mem_append_right _ h)
  have f168 := hts (.fieldLink RX10 168 "TrueOnceWeekModel" "seed" "J") (by decide +kernel)
  have cl179 := hts (.constantLong RX10 179 (6364136223846793005 : Int64)) (by decide +kernel)
  have cl181 := hts (.constantLong RX10 181 (1442695040888963407 : Int64)) (by decide +kernel)
  have cl183 := hts (.constantLong RX10 183 (7 : Int64)) (by decide +kernel)
  refine kb_gen (fun Q hQ => ?_)
  unfold m_X10_drawDay at hm
  refine lv_aload_n hx hb dX10_drawDay_0 rfl (lv_at hl 0 rfl) ?_
  refine lv_aload_n hx hb dX10_drawDay_1 rfl (lv_at hl 0 rfl) ?_
  refine va_get (D := (dC, dI)) (ci := 8) (v := .long v_seed) (C := RX10) (T := TX10) (N := 31) hx hb hts iX10 hown hK hP 0 rfl rfl 14 (by decide) f168 (fun _ h9 => h9) rfl dX10_drawDay_2 ?_
  refine lv_ldc2 (v := (6364136223846793005 : Int64)) hx hb hown cl179 dX10_drawDay_5 ?_
  refine lv_lmul hx hb dX10_drawDay_8 ?_
  refine lv_ldc2 (v := (1442695040888963407 : Int64)) hx hb hown cl181 dX10_drawDay_9 ?_
  refine lv_ladd hx hb dX10_drawDay_12 ?_
  refine lv_topl (fun x1 ex1 => ?_)
  replace hm := nm_t ex1 hm
  refine va_put (D := (dC, dI)) (ci := 8) (v := .long x1) (ty := .long) (C := RX10) (T := TX10) (N := 31) hx hb hts iX10 tyX10 tyX10_ok nmX10 hown hK hP (kb_D hD rfl) hS 0 rfl rfl 14 (by decide) f168 (fun _ h9 => h9) rfl (by decide +kernel) rfl rfl (Nat.le_of_ble_eq_true rfl) dX10_drawDay_13 (fun H locs hP _ hS => ?_)
  have hP : va_P (dC, dI) vwCl [oX10 a_th (.int v_thrown) q_text (.int v_textSize) (.int v_place) q_question (.int v_questionSize) (.int v_facts) (.int v_isSo) (.int v_common) (.int v_readFacts) (.int v_readSo) (.int v_readCommon) (.int v_readDay) q_page (.long x1) q_book q_bookSeed (.int v_acts) q_kept q_isKept (.int v_told) q_toldSimple q_toldDay q_toldYes q_yesOf q_noOf q_factOf q_stack q_one q_two q_three] H := hP
  refine lv_aload_n hx hb dX10_drawDay_16 rfl (lv_at hl 0 rfl) ?_
  refine va_get (D := (dC, dI)) (ci := 8) (v := .long x1) (C := RX10) (T := TX10) (N := 31) hx hb hts iX10 hown hK hP 0 rfl rfl 14 (by decide) f168 (fun _ h9 => h9) rfl dX10_drawDay_17 ?_
  refine lv_bipush (v := (33 : Int32)) hx hb dX10_drawDay_20 (by decide) ?_
  refine lv_lushr (v := (j_lushr x1 (33 : Int32))) hx hb dX10_drawDay_22 rfl ?_
  refine lv_ldc2 (v := (7 : Int64)) hx hb hown cl183 dX10_drawDay_23 ?_
  refine lv_lrem hx hb dX10_drawDay_26 (by decide) ?_
  refine lv_l2i (v := (Int64.toInt32 ((j_lushr x1 (33 : Int32)) - (j_lushr x1 (33 : Int32)) / (7 : Int64) * (7 : Int64)))) hx hb dX10_drawDay_27 rfl ?_
  obtain rfl := Option.some.inj hm
  subst hQ
  exact W.iret hx hb hr (fun t ht hW => ⟨⟨_, (), rfl, rfl, kb_h hP ht⟩, hS.F ht⟩) hS.2.2 dX10_drawDay_28
set_option maxHeartbeats 4000000 in
set_option maxRecDepth 100000 in
theorem c_X10_day (l : Launch) (dC : Nat → ClassId) (dI : Nat → Nat → Nat) (cI cJ cZ cQ : ClassId) (t sz : Nat) (a_th : Nat) (a_book : Nat) (a_page : Nat) (a_bookSeed : Nat) (q_text : Value) (q_question : Value) (q_kept : Value) (q_isKept : Value) (q_toldSimple : Value) (q_toldDay : Value) (q_toldYes : Value) (q_yesOf : Value) (q_noOf : Value) (q_factOf : Value) (q_stack : Value) (q_one : Value) (q_two : Value) (q_three : Value) (v_thrown : Int32) (v_textSize : Int32) (v_place : Int32) (v_questionSize : Int32) (v_facts : Int32) (v_isSo : Int32) (v_common : Int32) (v_readFacts : Int32) (v_readSo : Int32) (v_readCommon : Int32) (v_readDay : Int32) (v_seed : Int64) (v_acts : Int32) (v_told : Int32) (v_book : (Nat → Int32)) (v_page : (Nat → Int32)) (v_bookSeed : (Nat → Int64)) (o : Int32 × Int32 × Int64 × Int32 × (Nat → Int32) × (Nat → Int32) × (Nat → Int64)) (hm : m_X10_day v_thrown v_seed v_acts v_book v_page v_bookSeed = some o) : Met l yX10_day wsX10_day { frames := 1, cells := 0, slots := 0, locals := 21 } (va_Pc [.ref a_th] (cP (dC, dI) (kT cI cJ cZ cQ) t sz [oX10 a_th (.int v_thrown) q_text (.int v_textSize) (.int v_place) q_question (.int v_questionSize) (.int v_facts) (.int v_isSo) (.int v_common) (.int v_readFacts) (.int v_readSo) (.int v_readCommon) (.int v_readDay) (.ref a_page) (.long v_seed) (.ref a_book) (.ref a_bookSeed) (.int v_acts) q_kept q_isKept (.int v_told) q_toldSimple q_toldDay q_toldYes q_yesOf q_noOf q_factOf q_stack q_one q_two q_three, aI cI a_book 120 v_book, aI cI a_page 12 v_page, aJ cJ a_bookSeed 10 v_bookSeed])) (cQi (dC, dI) (va_A [oX10 a_th (.int v_thrown) q_text (.int v_textSize) (.int v_place) q_question (.int v_questionSize) (.int v_facts) (.int v_isSo) (.int v_common) (.int v_readFacts) (.int v_readSo) (.int v_readCommon) (.int v_readDay) (.ref a_page) (.long v_seed) (.ref a_book) (.ref a_bookSeed) (.int v_acts) q_kept q_isKept (.int v_told) q_toldSimple q_toldDay q_toldYes q_yesOf q_noOf q_factOf q_stack q_one q_two q_three, aI cI a_book 120 v_book, aI cI a_page 12 v_page, aJ cJ a_bookSeed 10 v_bookSeed] sz) o.1 [oX10 a_th (.int (o.2.1)) q_text (.int v_textSize) (.int v_place) q_question (.int v_questionSize) (.int v_facts) (.int v_isSo) (.int v_common) (.int v_readFacts) (.int v_readSo) (.int v_readCommon) (.int v_readDay) (.ref a_page) (.long (o.2.2.1)) (.ref a_book) (.ref a_bookSeed) (.int (o.2.2.2.1)) q_kept q_isKept (.int v_told) q_toldSimple q_toldDay q_toldYes q_yesOf q_noOf q_factOf q_stack q_one q_two q_three, aI cI a_book 120 (o.2.2.2.2.1), aI cI a_page 12 (o.2.2.2.2.2.1), aJ cJ a_bookSeed 10 (o.2.2.2.2.2.2)]) 0 0 (va_A [oX10 a_th (.int v_thrown) q_text (.int v_textSize) (.int v_place) q_question (.int v_questionSize) (.int v_facts) (.int v_isSo) (.int v_common) (.int v_readFacts) (.int v_readSo) (.int v_readCommon) (.int v_readDay) (.ref a_page) (.long v_seed) (.ref a_book) (.ref a_bookSeed) (.int v_acts) q_kept q_isKept (.int v_told) q_toldSimple q_toldDay q_toldYes q_yesOf q_noOf q_factOf q_stack q_one q_two q_three, aI cI a_book 120 v_book, aI cI a_page 12 v_page, aJ cJ a_bookSeed 10 v_bookSeed] sz) := by
  refine Met.ofW (cc := cX10_day) (maxL := 3) (ret := (some .int)) (by decide) rfl ?_
  intro p e s m args below meth c s₁ B hml hv
  obtain ⟨rfl, hsz, hP, hK, hD0, hG⟩ := hv
  have hx := B.exec
  have hb := B.bytes
  have hr := B.returns
  have hts := atoms_spec (ws := wsX10_day) B.pre
  have hown : s.vm.findClass RX10 = some m.cls := findClass_of_methodNamed B.named
  have hlocks := B.notSynchronized
  subst hsz
  have hD := hD0.self (sz := s.heap.size)
  generalize hAe : va_A [oX10 a_th (.int v_thrown) q_text (.int v_textSize) (.int v_place) q_question (.int v_questionSize) (.int v_facts) (.int v_isSo) (.int v_common) (.int v_readFacts) (.int v_readSo) (.int v_readCommon) (.int v_readDay) (.ref a_page) (.long v_seed) (.ref a_book) (.ref a_bookSeed) (.int v_acts) q_kept q_isKept (.int v_told) q_toldSimple q_toldDay q_toldYes q_yesOf q_noOf q_factOf q_stack q_one q_two q_three, aI cI a_book 120 v_book, aI cI a_page 12 v_page, aJ cJ a_bookSeed 10 v_bookSeed] s.heap.size = A at hD hG ⊢
  have hA : ∀ q : Nat, s.heap.size ≤ q → A q := fun q h => by rw [← hAe]; exact Or.inr h
  have hS : va_S A s.heap s.heap [] := va_S.rf
  have hl := lv_entry ([.ref a_th]) (n := 3) (Nat.le_of_ble_eq_true rfl)
  rw [lg_entry_eq]
  generalize (lg_sl ([.ref a_th]) ++ List.replicate (3 - (lg_sl ([.ref a_th])).length) Slot.unset).toArray = ls at hl ⊢
  have hl : lv_has ls 3 [(0, .ref a_th)] := hl
  have iX10 : ∀ w ∈ wsX100, w ∈ wsX10_day := fun _ h => List.mem_cons_of_mem _ (List.mem_append_right _ h)
  have f66 := hts (.fieldLink RX10 66 "TrueOnceWeekModel" "thrown" "I") (by decide +kernel)
  have f16 := hts (.fieldLink RX10 16 "TrueOnceWeekModel" "page" "[I") (by decide +kernel)
  refine kb_gen (fun Q hQ => ?_)
  unfold m_X10_day at hm
  refine lv_aload_n hx hb dX10_day_0 rfl (lv_at hl 0 rfl) ?_
  refine lv_iconst (v := (0 : Int32)) hx hb dX10_day_1 (by decide) ?_
  refine va_put (D := (dC, dI)) (ci := 8) (v := .int (0 : Int32)) (ty := .int) (C := RX10) (T := TX10) (N := 31) hx hb hts iX10 tyX10 tyX10_ok nmX10 hown hK hP (kb_D hD rfl) hS 0 rfl rfl 0 (by decide) f66 (fun _ h9 => h9) rfl (by decide +kernel) rfl rfl (Nat.le_of_ble_eq_true rfl) dX10_day_2 (fun H locs hP _ hS => ?_)
  have hP : va_P (dC, dI) vwCl [oX10 a_th (.int (0 : Int32)) q_text (.int v_textSize) (.int v_place) q_question (.int v_questionSize) (.int v_facts) (.int v_isSo) (.int v_common) (.int v_readFacts) (.int v_readSo) (.int v_readCommon) (.int v_readDay) (.ref a_page) (.long v_seed) (.ref a_book) (.ref a_bookSeed) (.int v_acts) q_kept q_isKept (.int v_told) q_toldSimple q_toldDay q_toldYes q_yesOf q_noOf q_factOf q_stack q_one q_two q_three, aI cI a_book 120 v_book, aI cI a_page 12 v_page, aJ cJ a_bookSeed 10 v_bookSeed] H := hP
  refine lv_aload_n hx hb dX10_day_5 rfl (lv_at hl 0 rfl) ?_
  obtain ⟨w1, w2, w3, ho4, hm⟩ := bd3_s hm
  refine kb_callv (va_runV (As := []) (rest := []) ⟨hx, hb, hml, hown, hts⟩ (c_X10_note l dC dI cI cJ cZ cQ t H.size a_th a_book a_page a_bookSeed q_text q_question q_kept q_isKept q_toldSimple q_toldDay q_toldYes q_yesOf q_noOf q_factOf q_stack q_one q_two q_three (0 : Int32) v_textSize v_place v_questionSize v_facts v_isSo v_common v_readFacts v_readSo v_readCommon v_readDay v_seed v_acts v_told v_book v_page v_bookSeed (w1, w2, w3) ho4) (cwV 0 hts gX10_day_X10_note rfl rfl rfl (by decide +kernel) ⟨(Nat.le_of_ble_eq_true rfl), (Nat.le_of_ble_eq_true rfl)⟩) ⟨(kb_pre hK hG hP (kb_D hD rfl) hS hA [0, 1, 2, 3] rfl (by decide)).1, (va_recv hK hP (ci := 8) (q0 := 0) rfl rfl), (kb_pre hK hG hP (kb_D hD rfl) hS hA [0, 1, 2, 3] rfl (by decide)).2⟩ rfl rfl hl.1 rfl (lv_room (Nat.le_of_ble_eq_true rfl)) dX10_day_6 ⟨Nat.zero_le _, Nat.zero_le _⟩) hP (kb_D hD rfl) hS hA [0, 1, 2, 3] rfl [(true, 0), (true, 1), (true, 2), (true, 3)] (w2 := [oX10 a_th (.int (0 : Int32)) q_text (.int v_textSize) (.int v_place) q_question (.int v_questionSize) (.int v_facts) (.int v_isSo) (.int v_common) (.int v_readFacts) (.int v_readSo) (.int v_readCommon) (.int v_readDay) (.ref a_page) (.long v_seed) (.ref a_book) (.ref a_bookSeed) (.int w1) q_kept q_isKept (.int v_told) q_toldSimple q_toldDay q_toldYes q_yesOf q_noOf q_factOf q_stack q_one q_two q_three, aI cI a_book 120 w2, aI cI a_page 12 v_page, aJ cJ a_bookSeed 10 w3]) rfl (by decide) (fun H locs hP hS => ?_)
  refine lv_aload_n hx hb dX10_day_9 rfl (lv_at hl 0 rfl) ?_
  refine va_get (D := (dC, dI)) (ci := 8) (v := .ref a_page) (C := RX10) (T := TX10) (N := 31) hx hb hts iX10 hown hK hP 0 rfl rfl 13 (by decide) f16 (fun _ h9 => h9) rfl dX10_day_10 ?_
  refine lv_bipush (v := (9 : Int32)) hx hb dX10_day_13 (by decide) ?_
  refine lv_iconst (v := (0 : Int32)) hx hb dX10_day_15 (by decide) ?_
  refine va_iast hx hb hK hP (kb_D hD rfl) hS 2 0 rfl rfl (inB_s (by decide)) dX10_day_16 (fun H locs hP _ hS => ?_)
  have hP : va_P (dC, dI) vwCl [oX10 a_th (.int (0 : Int32)) q_text (.int v_textSize) (.int v_place) q_question (.int v_questionSize) (.int v_facts) (.int v_isSo) (.int v_common) (.int v_readFacts) (.int v_readSo) (.int v_readCommon) (.int v_readDay) (.ref a_page) (.long v_seed) (.ref a_book) (.ref a_bookSeed) (.int w1) q_kept q_isKept (.int v_told) q_toldSimple q_toldDay q_toldYes q_yesOf q_noOf q_factOf q_stack q_one q_two q_three, aI cI a_book 120 w2, aI cI a_page 12 (upd v_page (Int32.toNatClampNeg (9 : Int32)) (0 : Int32)), aJ cJ a_bookSeed 10 w3] H := hP
  refine lv_aload_n hx hb dX10_day_17 rfl (lv_at hl 0 rfl) ?_
  refine va_get (D := (dC, dI)) (ci := 8) (v := .ref a_page) (C := RX10) (T := TX10) (N := 31) hx hb hts iX10 hown hK hP 0 rfl rfl 13 (by decide) f16 (fun _ h9 => h9) rfl dX10_day_18 ?_
  refine lv_bipush (v := (10 : Int32)) hx hb dX10_day_21 (by decide) ?_
  refine lv_aload_n hx hb dX10_day_23 rfl (lv_at hl 0 rfl) ?_
  refine va_get (D := (dC, dI)) (ci := 8) (v := .ref a_page) (C := RX10) (T := TX10) (N := 31) hx hb hts iX10 hown hK hP 0 rfl rfl 13 (by decide) f16 (fun _ h9 => h9) rfl dX10_day_24 ?_
  refine lv_bipush (v := (10 : Int32)) hx hb dX10_day_27 (by decide) ?_
  refine va_iald hx hb hK hP 2 0 rfl rfl (inB_s (by decide)) dX10_day_29 ?_
  refine lv_iconst (v := (2 : Int32)) hx hb dX10_day_30 (by decide) ?_
  obtain ⟨k45, ek45, hm⟩ := nm_s hm
  have J45 : ∀ (x5 : Int32) (H : Heap) (locs : List Loc) (ls : Array Slot), k45 x5 = some o → va_P (dC, dI) vwCl [oX10 a_th (.int (0 : Int32)) q_text (.int v_textSize) (.int v_place) q_question (.int v_questionSize) (.int v_facts) (.int v_isSo) (.int v_common) (.int v_readFacts) (.int v_readSo) (.int v_readCommon) (.int v_readDay) (.ref a_page) (.long v_seed) (.ref a_book) (.ref a_bookSeed) (.int w1) q_kept q_isKept (.int v_told) q_toldSimple q_toldDay q_toldYes q_yesOf q_noOf q_factOf q_stack q_one q_two q_three, aI cI a_book 120 w2, aI cI a_page 12 (upd v_page (Int32.toNatClampNeg (9 : Int32)) (0 : Int32)), aJ cJ a_bookSeed 10 w3] H → va_S A s.heap H locs → lv_has ls 3 [(0, .ref a_th)] → W p l e (headSpec wsX10_day { frames := 1, cells := 0, slots := 0, locals := 21 }).room s m [.ref a_th].toArray below meth c H locs 0 0 Q (F0 m 45 ls [.int x5, .int (10 : Int32), .ref a_page]) := by
    intro x5 H locs ls hm hP hS hl
    rw [ek45] at hm
    refine va_iast hx hb hK hP (kb_D hD rfl) hS 2 0 rfl rfl (inB_s (by decide)) dX10_day_45 (fun H locs hP _ hS => ?_)
    have hP : va_P (dC, dI) vwCl [oX10 a_th (.int (0 : Int32)) q_text (.int v_textSize) (.int v_place) q_question (.int v_questionSize) (.int v_facts) (.int v_isSo) (.int v_common) (.int v_readFacts) (.int v_readSo) (.int v_readCommon) (.int v_readDay) (.ref a_page) (.long v_seed) (.ref a_book) (.ref a_bookSeed) (.int w1) q_kept q_isKept (.int v_told) q_toldSimple q_toldDay q_toldYes q_yesOf q_noOf q_factOf q_stack q_one q_two q_three, aI cI a_book 120 w2, aI cI a_page 12 (upd (upd v_page (Int32.toNatClampNeg (9 : Int32)) (0 : Int32)) (Int32.toNatClampNeg (10 : Int32)) x5), aJ cJ a_bookSeed 10 w3] H := hP
    refine lv_aload_n hx hb dX10_day_46 rfl (lv_at hl 0 rfl) ?_
    refine va_get (D := (dC, dI)) (ci := 8) (v := .ref a_page) (C := RX10) (T := TX10) (N := 31) hx hb hts iX10 hown hK hP 0 rfl rfl 13 (by decide) f16 (fun _ h9 => h9) rfl dX10_day_47 ?_
    refine lv_bipush (v := (7 : Int32)) hx hb dX10_day_50 (by decide) ?_
    refine lv_dup2_11 hx hb dX10_day_52 rfl rfl ?_
    refine va_iald hx hb hK hP 2 0 rfl rfl (inB_s (by decide)) dX10_day_53 ?_
    refine lv_iconst (v := (1 : Int32)) hx hb dX10_day_54 (by decide) ?_
    refine lv_iadd hx hb dX10_day_55 ?_
    refine lv_topi (fun x6 ex6 => ?_)
    replace hm := nm_t ex6 hm
    refine va_iast hx hb hK hP (kb_D hD rfl) hS 2 0 rfl rfl (inB_s (by decide)) dX10_day_56 (fun H locs hP _ hS => ?_)
    have hP : va_P (dC, dI) vwCl [oX10 a_th (.int (0 : Int32)) q_text (.int v_textSize) (.int v_place) q_question (.int v_questionSize) (.int v_facts) (.int v_isSo) (.int v_common) (.int v_readFacts) (.int v_readSo) (.int v_readCommon) (.int v_readDay) (.ref a_page) (.long v_seed) (.ref a_book) (.ref a_bookSeed) (.int w1) q_kept q_isKept (.int v_told) q_toldSimple q_toldDay q_toldYes q_yesOf q_noOf q_factOf q_stack q_one q_two q_three, aI cI a_book 120 w2, aI cI a_page 12 (upd (upd (upd v_page (Int32.toNatClampNeg (9 : Int32)) (0 : Int32)) (Int32.toNatClampNeg (10 : Int32)) x5) (Int32.toNatClampNeg (7 : Int32)) x6), aJ cJ a_bookSeed 10 w3] H := hP
    refine lv_aload_n hx hb dX10_day_57 rfl (lv_at hl 0 rfl) ?_
    refine va_get (D := (dC, dI)) (ci := 8) (v := .ref a_page) (C := RX10) (T := TX10) (N := 31) hx hb hts iX10 hown hK hP 0 rfl rfl 13 (by decide) f16 (fun _ h9 => h9) rfl dX10_day_58 ?_
    refine lv_bipush (v := (7 : Int32)) hx hb dX10_day_61 (by decide) ?_
    refine va_iald hx hb hK hP 2 0 rfl rfl (inB_s (by decide)) dX10_day_63 ?_
    refine lv_bipush (v := (28 : Int32)) hx hb dX10_day_64 (by decide) ?_
    obtain ⟨k134, ek134, hm⟩ := nm_s hm
    have J134 : ∀ (w7 : Int64) (w8 : (Nat → Int32)) (H : Heap) (locs : List Loc) (ls : Array Slot), k134 w7 w8 = some o → va_P (dC, dI) vwCl [oX10 a_th (.int (0 : Int32)) q_text (.int v_textSize) (.int v_place) q_question (.int v_questionSize) (.int v_facts) (.int v_isSo) (.int v_common) (.int v_readFacts) (.int v_readSo) (.int v_readCommon) (.int v_readDay) (.ref a_page) (.long w7) (.ref a_book) (.ref a_bookSeed) (.int w1) q_kept q_isKept (.int v_told) q_toldSimple q_toldDay q_toldYes q_yesOf q_noOf q_factOf q_stack q_one q_two q_three, aI cI a_book 120 w2, aI cI a_page 12 w8, aJ cJ a_bookSeed 10 w3] H → va_S A s.heap H locs → lv_has ls 3 [(0, .ref a_th)] → W p l e (headSpec wsX10_day { frames := 1, cells := 0, slots := 0, locals := 21 }).room s m [.ref a_th].toArray below meth c H locs 0 0 Q (F0 m 134 ls []) := by
      intro w7 w8 H locs ls hm hP hS hl
      rw [ek134] at hm
      refine lv_aload_n hx hb dX10_day_134 rfl (lv_at hl 0 rfl) ?_
      refine va_get (D := (dC, dI)) (ci := 8) (v := .ref a_page) (C := RX10) (T := TX10) (N := 31) hx hb hts iX10 hown hK hP 0 rfl rfl 13 (by decide) f16 (fun _ h9 => h9) rfl dX10_day_135 ?_
      refine lv_bipush (v := (7 : Int32)) hx hb dX10_day_138 (by decide) ?_
      refine va_iald hx hb hK hP 2 0 rfl rfl (inB_s (by decide)) dX10_day_140 ?_
      obtain rfl := Option.some.inj hm
      subst hQ
      exact W.iret hx hb hr (fun t ht hW => ⟨⟨_, (), rfl, rfl, kb_h hP ht⟩, hS.F ht⟩) hS.2.2 dX10_day_141
    refine lv_icmp_ne (tgt := 134) hx hb dX10_day_66 (by decide) (fun c9 => ?_) (fun c9 => ?_)
    · replace hm := ite_f c9 hm
      exact J134 v_seed (upd (upd (upd v_page (Int32.toNatClampNeg (9 : Int32)) (0 : Int32)) (Int32.toNatClampNeg (10 : Int32)) x5) (Int32.toNatClampNeg (7 : Int32)) x6) _ _ _ hm hP hS (lv_sub hl [0] rfl)
    · replace hm := ite_t c9 hm
      refine lv_aload_n hx hb dX10_day_69 rfl (lv_at hl 0 rfl) ?_
      refine va_get (D := (dC, dI)) (ci := 8) (v := .ref a_page) (C := RX10) (T := TX10) (N := 31) hx hb hts iX10 hown hK hP 0 rfl rfl 13 (by decide) f16 (fun _ h9 => h9) rfl dX10_day_70 ?_
      refine lv_bipush (v := (7 : Int32)) hx hb dX10_day_73 (by decide) ?_
      refine lv_iconst (v := (0 : Int32)) hx hb dX10_day_75 (by decide) ?_
      refine va_iast hx hb hK hP (kb_D hD rfl) hS 2 0 rfl rfl (inB_s (by decide)) dX10_day_76 (fun H locs hP _ hS => ?_)
      have hP : va_P (dC, dI) vwCl [oX10 a_th (.int (0 : Int32)) q_text (.int v_textSize) (.int v_place) q_question (.int v_questionSize) (.int v_facts) (.int v_isSo) (.int v_common) (.int v_readFacts) (.int v_readSo) (.int v_readCommon) (.int v_readDay) (.ref a_page) (.long v_seed) (.ref a_book) (.ref a_bookSeed) (.int w1) q_kept q_isKept (.int v_told) q_toldSimple q_toldDay q_toldYes q_yesOf q_noOf q_factOf q_stack q_one q_two q_three, aI cI a_book 120 w2, aI cI a_page 12 (upd (upd (upd (upd v_page (Int32.toNatClampNeg (9 : Int32)) (0 : Int32)) (Int32.toNatClampNeg (10 : Int32)) x5) (Int32.toNatClampNeg (7 : Int32)) x6) (Int32.toNatClampNeg (7 : Int32)) (0 : Int32)), aJ cJ a_bookSeed 10 w3] H := hP
      refine lv_aload_n hx hb dX10_day_77 rfl (lv_at hl 0 rfl) ?_
      refine va_get (D := (dC, dI)) (ci := 8) (v := .ref a_page) (C := RX10) (T := TX10) (N := 31) hx hb hts iX10 hown hK hP 0 rfl rfl 13 (by decide) f16 (fun _ h9 => h9) rfl dX10_day_78 ?_
      refine lv_bipush (v := (8 : Int32)) hx hb dX10_day_81 (by decide) ?_
      refine lv_aload_n hx hb dX10_day_83 rfl (lv_at hl 0 rfl) ?_
      obtain ⟨r10, w11, ho12, hm⟩ := bd2_s hm
      refine kb_calli (Rv := r10) (va_runV (As := []) (rest := [.int (8 : Int32), .ref a_page]) ⟨hx, hb, hml, hown, hts⟩ (c_X10_drawDay l dC dI cI cJ cZ cQ t H.size a_th q_text q_question (.ref a_page) (.ref a_book) (.ref a_bookSeed) q_kept q_isKept q_toldSimple q_toldDay q_toldYes q_yesOf q_noOf q_factOf q_stack q_one q_two q_three (0 : Int32) v_textSize v_place v_questionSize v_facts v_isSo v_common v_readFacts v_readSo v_readCommon v_readDay v_seed w1 v_told (r10, w11) ho12) (cwV 0 hts gX10_day_X10_drawDay rfl rfl rfl (by decide +kernel) ⟨(Nat.le_of_ble_eq_true rfl), (Nat.le_of_ble_eq_true rfl)⟩) ⟨(kb_pre hK hG hP (kb_D hD rfl) hS hA [0] rfl (by decide)).1, (va_recv hK hP (ci := 8) (q0 := 0) rfl rfl), (kb_pre hK hG hP (kb_D hD rfl) hS hA [0] rfl (by decide)).2⟩ rfl rfl hl.1 rfl (lv_room (Nat.le_of_ble_eq_true rfl)) dX10_day_84 ⟨Nat.zero_le _, Nat.zero_le _⟩) hP (kb_D hD rfl) hS hA [0] rfl [(true, 0), (false, 1), (false, 2), (false, 3)] (w2 := [oX10 a_th (.int (0 : Int32)) q_text (.int v_textSize) (.int v_place) q_question (.int v_questionSize) (.int v_facts) (.int v_isSo) (.int v_common) (.int v_readFacts) (.int v_readSo) (.int v_readCommon) (.int v_readDay) (.ref a_page) (.long w11) (.ref a_book) (.ref a_bookSeed) (.int w1) q_kept q_isKept (.int v_told) q_toldSimple q_toldDay q_toldYes q_yesOf q_noOf q_factOf q_stack q_one q_two q_three, aI cI a_book 120 w2, aI cI a_page 12 (upd (upd (upd (upd v_page (Int32.toNatClampNeg (9 : Int32)) (0 : Int32)) (Int32.toNatClampNeg (10 : Int32)) x5) (Int32.toNatClampNeg (7 : Int32)) x6) (Int32.toNatClampNeg (7 : Int32)) (0 : Int32)), aJ cJ a_bookSeed 10 w3]) rfl (by decide) (fun H locs hP hS => ?_)
      refine va_iast hx hb hK hP (kb_D hD rfl) hS 2 0 rfl rfl (inB_s (by decide)) dX10_day_87 (fun H locs hP _ hS => ?_)
      have hP : va_P (dC, dI) vwCl [oX10 a_th (.int (0 : Int32)) q_text (.int v_textSize) (.int v_place) q_question (.int v_questionSize) (.int v_facts) (.int v_isSo) (.int v_common) (.int v_readFacts) (.int v_readSo) (.int v_readCommon) (.int v_readDay) (.ref a_page) (.long w11) (.ref a_book) (.ref a_bookSeed) (.int w1) q_kept q_isKept (.int v_told) q_toldSimple q_toldDay q_toldYes q_yesOf q_noOf q_factOf q_stack q_one q_two q_three, aI cI a_book 120 w2, aI cI a_page 12 (upd (upd (upd (upd (upd v_page (Int32.toNatClampNeg (9 : Int32)) (0 : Int32)) (Int32.toNatClampNeg (10 : Int32)) x5) (Int32.toNatClampNeg (7 : Int32)) x6) (Int32.toNatClampNeg (7 : Int32)) (0 : Int32)) (Int32.toNatClampNeg (8 : Int32)) r10), aJ cJ a_bookSeed 10 w3] H := hP
      refine lv_iconst (v := (0 : Int32)) hx hb dX10_day_88 (by decide) ?_
      refine lv_istore_n (lv' := [(1, .int (0 : Int32)), (0, .ref a_th)]) hx hb dX10_day_89 rfl hl (by decide) rfl (fun ls hl => ?_)
      refine lv_iconst (v := (0 : Int32)) hx hb dX10_day_90 (by decide) ?_
      refine lv_istore_n (lv' := [(2, .int (0 : Int32)), (1, .int (0 : Int32)), (0, .ref a_th)]) hx hb dX10_day_91 rfl hl (by decide) rfl (fun ls hl => ?_)
      have lp92 : ∀ (n92 : Nat) (x13 : Int32) (x14 : Int32) (k92 : Int32 → Option (Int32 × Int32 × Int64 × Int32 × (Nat → Int32) × (Nat → Int32) × (Nat → Int64))) (H : Heap) (locs : List Loc) (ls : Array Slot), L_X10_day_92 v_page x5 x6 r10 n92 x13 x14 k92 = some o → (∀ (x15 : Int32) (H : Heap) (locs : List Loc) (ls : Array Slot), k92 x15 = some o → va_P (dC, dI) vwCl [oX10 a_th (.int (0 : Int32)) q_text (.int v_textSize) (.int v_place) q_question (.int v_questionSize) (.int v_facts) (.int v_isSo) (.int v_common) (.int v_readFacts) (.int v_readSo) (.int v_readCommon) (.int v_readDay) (.ref a_page) (.long w11) (.ref a_book) (.ref a_bookSeed) (.int w1) q_kept q_isKept (.int v_told) q_toldSimple q_toldDay q_toldYes q_yesOf q_noOf q_factOf q_stack q_one q_two q_three, aI cI a_book 120 w2, aI cI a_page 12 (upd (upd (upd (upd (upd v_page (Int32.toNatClampNeg (9 : Int32)) (0 : Int32)) (Int32.toNatClampNeg (10 : Int32)) x5) (Int32.toNatClampNeg (7 : Int32)) x6) (Int32.toNatClampNeg (7 : Int32)) (0 : Int32)) (Int32.toNatClampNeg (8 : Int32)) r10), aJ cJ a_bookSeed 10 w3] H → va_S A s.heap H locs → lv_has ls 3 [(0, .ref a_th), (1, .int x15)] → W p l e (headSpec wsX10_day { frames := 1, cells := 0, slots := 0, locals := 21 }).room s m [.ref a_th].toArray below meth c H locs 0 0 Q (F0 m 113 ls [])) → va_P (dC, dI) vwCl [oX10 a_th (.int (0 : Int32)) q_text (.int v_textSize) (.int v_place) q_question (.int v_questionSize) (.int v_facts) (.int v_isSo) (.int v_common) (.int v_readFacts) (.int v_readSo) (.int v_readCommon) (.int v_readDay) (.ref a_page) (.long w11) (.ref a_book) (.ref a_bookSeed) (.int w1) q_kept q_isKept (.int v_told) q_toldSimple q_toldDay q_toldYes q_yesOf q_noOf q_factOf q_stack q_one q_two q_three, aI cI a_book 120 w2, aI cI a_page 12 (upd (upd (upd (upd (upd v_page (Int32.toNatClampNeg (9 : Int32)) (0 : Int32)) (Int32.toNatClampNeg (10 : Int32)) x5) (Int32.toNatClampNeg (7 : Int32)) x6) (Int32.toNatClampNeg (7 : Int32)) (0 : Int32)) (Int32.toNatClampNeg (8 : Int32)) r10), aJ cJ a_bookSeed 10 w3] H → va_S A s.heap H locs → lv_has ls 3 [(0, .ref a_th), (1, .int x13), (2, .int x14)] → W p l e (headSpec wsX10_day { frames := 1, cells := 0, slots := 0, locals := 21 }).room s m [.ref a_th].toArray below meth c H locs 0 0 Q (F0 m 92 ls []) := by
        intro n92
        induction n92 with
        | zero =>
          intro x13 x14 k92 H locs ls hm
          cases (show (none : Option (Int32 × Int32 × Int64 × Int32 × (Nat → Int32) × (Nat → Int32) × (Nat → Int64))) = some o from hm)
        | succ n92 ih92 =>
          intro x13 x14 k92 H locs ls hm hk92 hP hS hl
          rw [L_X10_day_92.eq_2] at hm
          refine lv_iload_n hx hb dX10_day_92 rfl (lv_at hl 2 rfl) ?_
          refine lv_bipush (v := (7 : Int32)) hx hb dX10_day_93 (by decide) ?_
          refine lv_icmp_ge (tgt := 113) hx hb dX10_day_95 (by decide) (fun c16 => ?_) (fun c16 => ?_)
          · replace hm := ite_t c16 hm
            exact hk92 x13 _ _ _ hm hP hS (lv_sub hl [0, 1] rfl)
          · replace hm := ite_f c16 hm
            refine lv_iload_n hx hb dX10_day_98 rfl (lv_at hl 1 rfl) ?_
            refine lv_aload_n hx hb dX10_day_99 rfl (lv_at hl 0 rfl) ?_
            refine va_get (D := (dC, dI)) (ci := 8) (v := .ref a_page) (C := RX10) (T := TX10) (N := 31) hx hb hts iX10 hown hK hP 0 rfl rfl 13 (by decide) f16 (fun _ h9 => h9) rfl dX10_day_100 ?_
            refine lv_iload_n hx hb dX10_day_103 rfl (lv_at hl 2 rfl) ?_
            obtain ⟨h17, hm⟩ := gd_s hm
            refine va_iald hx hb hK hP 2 0 rfl rfl (inB_s h17) dX10_day_104 ?_
            refine lv_ior hx hb dX10_day_105 ?_
            refine lv_topi (fun x18 ex18 => ?_)
            replace hm := nm_t ex18 hm
            refine lv_istore_n (lv' := [(1, .int x18), (0, .ref a_th), (2, .int x14)]) hx hb dX10_day_106 rfl hl (by decide) rfl (fun ls hl => ?_)
            obtain ⟨x19, ex19⟩ : ∃ y : Int32, y = x14 + (1 : Int32) := ⟨_, rfl⟩
            replace hm := nm_t ex19 hm
            refine lv_iinc (v := x19) (lv' := [(2, .int x19), (1, .int x18), (0, .ref a_th)]) hx hb dX10_day_107 hl (k := 2) rfl (by rw [ex19]; rfl) (by decide) rfl (fun ls hl => ?_)
            refine lv_goto (tgt := 92) hx hb dX10_day_110 (by decide) ?_
            exact ih92 x18 x19 k92 _ _ _ hm hk92 hP hS (lv_sub hl [2, 1, 0] rfl)
      refine lp92 1024 (0 : Int32) (0 : Int32) _ _ _ _ hm (fun x15 H locs ls hm hP hS hl => ?_) hP hS (lv_sub hl [2, 1, 0] rfl)
      refine lv_iconst (v := (0 : Int32)) hx hb dX10_day_113 (by decide) ?_
      refine lv_istore_n (lv' := [(2, .int (0 : Int32)), (0, .ref a_th), (1, .int x15)]) hx hb dX10_day_114 rfl hl (by decide) rfl (fun ls hl => ?_)
      have lp115 : ∀ (n115 : Nat) (x20 : Int32) (w21 : (Nat → Int32)) (k115 : (Nat → Int32) → Option (Int32 × Int32 × Int64 × Int32 × (Nat → Int32) × (Nat → Int32) × (Nat → Int64))) (H : Heap) (locs : List Loc) (ls : Array Slot), L_X10_day_115 x15 n115 x20 w21 k115 = some o → (∀ (w22 : (Nat → Int32)) (H : Heap) (locs : List Loc) (ls : Array Slot), k115 w22 = some o → va_P (dC, dI) vwCl [oX10 a_th (.int (0 : Int32)) q_text (.int v_textSize) (.int v_place) q_question (.int v_questionSize) (.int v_facts) (.int v_isSo) (.int v_common) (.int v_readFacts) (.int v_readSo) (.int v_readCommon) (.int v_readDay) (.ref a_page) (.long w11) (.ref a_book) (.ref a_bookSeed) (.int w1) q_kept q_isKept (.int v_told) q_toldSimple q_toldDay q_toldYes q_yesOf q_noOf q_factOf q_stack q_one q_two q_three, aI cI a_book 120 w2, aI cI a_page 12 w22, aJ cJ a_bookSeed 10 w3] H → va_S A s.heap H locs → lv_has ls 3 [(0, .ref a_th)] → W p l e (headSpec wsX10_day { frames := 1, cells := 0, slots := 0, locals := 21 }).room s m [.ref a_th].toArray below meth c H locs 0 0 Q (F0 m 134 ls [])) → va_P (dC, dI) vwCl [oX10 a_th (.int (0 : Int32)) q_text (.int v_textSize) (.int v_place) q_question (.int v_questionSize) (.int v_facts) (.int v_isSo) (.int v_common) (.int v_readFacts) (.int v_readSo) (.int v_readCommon) (.int v_readDay) (.ref a_page) (.long w11) (.ref a_book) (.ref a_bookSeed) (.int w1) q_kept q_isKept (.int v_told) q_toldSimple q_toldDay q_toldYes q_yesOf q_noOf q_factOf q_stack q_one q_two q_three, aI cI a_book 120 w2, aI cI a_page 12 w21, aJ cJ a_bookSeed 10 w3] H → va_S A s.heap H locs → lv_has ls 3 [(0, .ref a_th), (1, .int x15), (2, .int x20)] → W p l e (headSpec wsX10_day { frames := 1, cells := 0, slots := 0, locals := 21 }).room s m [.ref a_th].toArray below meth c H locs 0 0 Q (F0 m 115 ls []) := by
        intro n115
        induction n115 with
        | zero =>
          intro x20 w21 k115 H locs ls hm
          cases (show (none : Option (Int32 × Int32 × Int64 × Int32 × (Nat → Int32) × (Nat → Int32) × (Nat → Int64))) = some o from hm)
        | succ n115 ih115 =>
          intro x20 w21 k115 H locs ls hm hk115 hP hS hl
          rw [L_X10_day_115.eq_2] at hm
          refine lv_iload_n hx hb dX10_day_115 rfl (lv_at hl 2 rfl) ?_
          refine lv_bipush (v := (7 : Int32)) hx hb dX10_day_116 (by decide) ?_
          refine lv_icmp_ge (tgt := 134) hx hb dX10_day_118 (by decide) (fun c23 => ?_) (fun c23 => ?_)
          · replace hm := ite_t c23 hm
            exact hk115 w21 _ _ _ hm hP hS (lv_sub hl [0] rfl)
          · replace hm := ite_f c23 hm
            refine lv_aload_n hx hb dX10_day_121 rfl (lv_at hl 0 rfl) ?_
            refine va_get (D := (dC, dI)) (ci := 8) (v := .ref a_page) (C := RX10) (T := TX10) (N := 31) hx hb hts iX10 hown hK hP 0 rfl rfl 13 (by decide) f16 (fun _ h9 => h9) rfl dX10_day_122 ?_
            refine lv_iload_n hx hb dX10_day_125 rfl (lv_at hl 2 rfl) ?_
            refine lv_iload_n hx hb dX10_day_126 rfl (lv_at hl 1 rfl) ?_
            obtain ⟨h24, hm⟩ := gd_s hm
            refine va_iast hx hb hK hP (kb_D hD rfl) hS 2 0 rfl rfl (inB_s h24) dX10_day_127 (fun H locs hP _ hS => ?_)
            have hP : va_P (dC, dI) vwCl [oX10 a_th (.int (0 : Int32)) q_text (.int v_textSize) (.int v_place) q_question (.int v_questionSize) (.int v_facts) (.int v_isSo) (.int v_common) (.int v_readFacts) (.int v_readSo) (.int v_readCommon) (.int v_readDay) (.ref a_page) (.long w11) (.ref a_book) (.ref a_bookSeed) (.int w1) q_kept q_isKept (.int v_told) q_toldSimple q_toldDay q_toldYes q_yesOf q_noOf q_factOf q_stack q_one q_two q_three, aI cI a_book 120 w2, aI cI a_page 12 (upd w21 (Int32.toNatClampNeg x20) x15), aJ cJ a_bookSeed 10 w3] H := hP
            obtain ⟨x25, ex25⟩ : ∃ y : Int32, y = x20 + (1 : Int32) := ⟨_, rfl⟩
            replace hm := nm_t ex25 hm
            refine lv_iinc (v := x25) (lv' := [(2, .int x25), (0, .ref a_th), (1, .int x15)]) hx hb dX10_day_128 hl (k := 2) rfl (by rw [ex25]; rfl) (by decide) rfl (fun ls hl => ?_)
            refine lv_goto (tgt := 115) hx hb dX10_day_131 (by decide) ?_
            exact ih115 x25 (upd w21 (Int32.toNatClampNeg x20) x15) k115 _ _ _ hm hk115 hP hS (lv_sub hl [1, 2, 0] rfl)
      refine lp115 1024 (0 : Int32) (upd (upd (upd (upd (upd v_page (Int32.toNatClampNeg (9 : Int32)) (0 : Int32)) (Int32.toNatClampNeg (10 : Int32)) x5) (Int32.toNatClampNeg (7 : Int32)) x6) (Int32.toNatClampNeg (7 : Int32)) (0 : Int32)) (Int32.toNatClampNeg (8 : Int32)) r10) _ _ _ _ hm (fun w22 H locs ls hm hP hS hl => ?_) hP hS (lv_sub hl [1, 2, 0] rfl)
      exact J134 w11 w22 _ _ _ hm hP hS (lv_sub hl [0] rfl)
  refine lv_icmp_ne (tgt := 38) hx hb dX10_day_31 (by decide) (fun c26 => ?_) (fun c26 => ?_)
  · replace hm := ite_f c26 hm
    refine lv_aload_n hx hb dX10_day_38 rfl (lv_at hl 0 rfl) ?_
    refine va_get (D := (dC, dI)) (ci := 8) (v := .ref a_page) (C := RX10) (T := TX10) (N := 31) hx hb hts iX10 hown hK hP 0 rfl rfl 13 (by decide) f16 (fun _ h9 => h9) rfl dX10_day_39 ?_
    refine lv_bipush (v := (10 : Int32)) hx hb dX10_day_42 (by decide) ?_
    refine va_iald hx hb hK hP 2 0 rfl rfl (inB_s (by decide)) dX10_day_44 ?_
    exact J45 ((upd v_page (Int32.toNatClampNeg (9 : Int32)) (0 : Int32)) (Int32.toNatClampNeg (10 : Int32))) _ _ _ hm hP hS (lv_sub hl [0] rfl)
  · replace hm := ite_t c26 hm
    refine lv_iconst (v := (0 : Int32)) hx hb dX10_day_34 (by decide) ?_
    refine lv_goto (tgt := 45) hx hb dX10_day_35 (by decide) ?_
    exact J45 (0 : Int32) _ _ _ hm hP hS (lv_sub hl [0] rfl)
set_option maxHeartbeats 4000000 in
set_option maxRecDepth 100000 in
theorem c_X10_cloth (l : Launch) (dC : Nat → ClassId) (dI : Nat → Nat → Nat) (cI cJ cZ cQ : ClassId) (t sz : Nat) (a_th : Nat) (a_book : Nat) (a_page : Nat) (a_bookSeed : Nat) (q_text : Value) (q_question : Value) (q_kept : Value) (q_isKept : Value) (q_toldSimple : Value) (q_toldDay : Value) (q_toldYes : Value) (q_yesOf : Value) (q_noOf : Value) (q_factOf : Value) (q_stack : Value) (q_one : Value) (q_two : Value) (q_three : Value) (v_thrown : Int32) (v_textSize : Int32) (v_place : Int32) (v_questionSize : Int32) (v_facts : Int32) (v_isSo : Int32) (v_common : Int32) (v_readFacts : Int32) (v_readSo : Int32) (v_readCommon : Int32) (v_readDay : Int32) (v_seed : Int64) (v_acts : Int32) (v_told : Int32) (v_book : (Nat → Int32)) (v_page : (Nat → Int32)) (v_bookSeed : (Nat → Int64)) (o : Int32 × Int32 × Int32 × (Nat → Int32) × (Nat → Int32) × (Nat → Int64)) (hm : m_X10_cloth v_thrown v_seed v_acts v_book v_page v_bookSeed = some o) : Met l yX10_cloth wsX10_cloth { frames := 1, cells := 0, slots := 0, locals := 21 } (va_Pc [.ref a_th] (cP (dC, dI) (kT cI cJ cZ cQ) t sz [oX10 a_th (.int v_thrown) q_text (.int v_textSize) (.int v_place) q_question (.int v_questionSize) (.int v_facts) (.int v_isSo) (.int v_common) (.int v_readFacts) (.int v_readSo) (.int v_readCommon) (.int v_readDay) (.ref a_page) (.long v_seed) (.ref a_book) (.ref a_bookSeed) (.int v_acts) q_kept q_isKept (.int v_told) q_toldSimple q_toldDay q_toldYes q_yesOf q_noOf q_factOf q_stack q_one q_two q_three, aI cI a_book 120 v_book, aI cI a_page 12 v_page, aJ cJ a_bookSeed 10 v_bookSeed])) (cQi (dC, dI) (va_A [oX10 a_th (.int v_thrown) q_text (.int v_textSize) (.int v_place) q_question (.int v_questionSize) (.int v_facts) (.int v_isSo) (.int v_common) (.int v_readFacts) (.int v_readSo) (.int v_readCommon) (.int v_readDay) (.ref a_page) (.long v_seed) (.ref a_book) (.ref a_bookSeed) (.int v_acts) q_kept q_isKept (.int v_told) q_toldSimple q_toldDay q_toldYes q_yesOf q_noOf q_factOf q_stack q_one q_two q_three, aI cI a_book 120 v_book, aI cI a_page 12 v_page, aJ cJ a_bookSeed 10 v_bookSeed] sz) o.1 [oX10 a_th (.int (o.2.1)) q_text (.int v_textSize) (.int v_place) q_question (.int v_questionSize) (.int v_facts) (.int v_isSo) (.int v_common) (.int v_readFacts) (.int v_readSo) (.int v_readCommon) (.int v_readDay) (.ref a_page) (.long v_seed) (.ref a_book) (.ref a_bookSeed) (.int (o.2.2.1)) q_kept q_isKept (.int v_told) q_toldSimple q_toldDay q_toldYes q_yesOf q_noOf q_factOf q_stack q_one q_two q_three, aI cI a_book 120 (o.2.2.2.1), aI cI a_page 12 (o.2.2.2.2.1), aJ cJ a_bookSeed 10 (o.2.2.2.2.2)]) 0 0 (va_A [oX10 a_th (.int v_thrown) q_text (.int v_textSize) (.int v_place) q_question (.int v_questionSize) (.int v_facts) (.int v_isSo) (.int v_common) (.int v_readFacts) (.int v_readSo) (.int v_readCommon) (.int v_readDay) (.ref a_page) (.long v_seed) (.ref a_book) (.ref a_bookSeed) (.int v_acts) q_kept q_isKept (.int v_told) q_toldSimple q_toldDay q_toldYes q_yesOf q_noOf q_factOf q_stack q_one q_two q_three, aI cI a_book 120 v_book, aI cI a_page 12 v_page, aJ cJ a_bookSeed 10 v_bookSeed] sz) := by
  refine Met.ofW (cc := cX10_cloth) (maxL := 1) (ret := (some .int)) (by decide) rfl ?_
  intro p e s m args below meth c s₁ B hml hv
  obtain ⟨rfl, hsz, hP, hK, hD0, hG⟩ := hv
  have hx := B.exec
  have hb := B.bytes
  have hr := B.returns
  have hts := atoms_spec (ws := wsX10_cloth) B.pre
  have hown : s.vm.findClass RX10 = some m.cls := findClass_of_methodNamed B.named
  have hlocks := B.notSynchronized
  subst hsz
  have hD := hD0.self (sz := s.heap.size)
  generalize hAe : va_A [oX10 a_th (.int v_thrown) q_text (.int v_textSize) (.int v_place) q_question (.int v_questionSize) (.int v_facts) (.int v_isSo) (.int v_common) (.int v_readFacts) (.int v_readSo) (.int v_readCommon) (.int v_readDay) (.ref a_page) (.long v_seed) (.ref a_book) (.ref a_bookSeed) (.int v_acts) q_kept q_isKept (.int v_told) q_toldSimple q_toldDay q_toldYes q_yesOf q_noOf q_factOf q_stack q_one q_two q_three, aI cI a_book 120 v_book, aI cI a_page 12 v_page, aJ cJ a_bookSeed 10 v_bookSeed] s.heap.size = A at hD hG ⊢
  have hA : ∀ q : Nat, s.heap.size ≤ q → A q := fun q h => by rw [← hAe]; exact Or.inr h
  have hS : va_S A s.heap s.heap [] := va_S.rf
  have hl := lv_entry ([.ref a_th]) (n := 1) (Nat.le_of_ble_eq_true rfl)
  rw [lg_entry_eq]
  generalize (lg_sl ([.ref a_th]) ++ List.replicate (1 - (lg_sl ([.ref a_th])).length) Slot.unset).toArray = ls at hl ⊢
  have hl : lv_has ls 1 [(0, .ref a_th)] := hl
  have iX10 : ∀ w ∈ wsX100, w ∈ wsX10_cloth := fun _ h => List.mem_cons_of_mem _ (List.mem_append_right _ h)
  have f66 := hts (.fieldLink RX10 66 "TrueOnceWeekModel" "thrown" "I") (by decide +kernel)
  have f16 := hts (.fieldLink RX10 16 "TrueOnceWeekModel" "page" "[I") (by decide +kernel)
  refine kb_gen (fun Q hQ => ?_)
  unfold m_X10_cloth at hm
  refine lv_aload_n hx hb dX10_cloth_0 rfl (lv_at hl 0 rfl) ?_
  refine lv_iconst (v := (0 : Int32)) hx hb dX10_cloth_1 (by decide) ?_
  refine va_put (D := (dC, dI)) (ci := 8) (v := .int (0 : Int32)) (ty := .int) (C := RX10) (T := TX10) (N := 31) hx hb hts iX10 tyX10 tyX10_ok nmX10 hown hK hP (kb_D hD rfl) hS 0 rfl rfl 0 (by decide) f66 (fun _ h9 => h9) rfl (by decide +kernel) rfl rfl (Nat.le_of_ble_eq_true rfl) dX10_cloth_2 (fun H locs hP _ hS => ?_)
  have hP : va_P (dC, dI) vwCl [oX10 a_th (.int (0 : Int32)) q_text (.int v_textSize) (.int v_place) q_question (.int v_questionSize) (.int v_facts) (.int v_isSo) (.int v_common) (.int v_readFacts) (.int v_readSo) (.int v_readCommon) (.int v_readDay) (.ref a_page) (.long v_seed) (.ref a_book) (.ref a_bookSeed) (.int v_acts) q_kept q_isKept (.int v_told) q_toldSimple q_toldDay q_toldYes q_yesOf q_noOf q_factOf q_stack q_one q_two q_three, aI cI a_book 120 v_book, aI cI a_page 12 v_page, aJ cJ a_bookSeed 10 v_bookSeed] H := hP
  refine lv_aload_n hx hb dX10_cloth_5 rfl (lv_at hl 0 rfl) ?_
  obtain ⟨w1, w2, w3, ho4, hm⟩ := bd3_s hm
  refine kb_callv (va_runV (As := []) (rest := []) ⟨hx, hb, hml, hown, hts⟩ (c_X10_note l dC dI cI cJ cZ cQ t H.size a_th a_book a_page a_bookSeed q_text q_question q_kept q_isKept q_toldSimple q_toldDay q_toldYes q_yesOf q_noOf q_factOf q_stack q_one q_two q_three (0 : Int32) v_textSize v_place v_questionSize v_facts v_isSo v_common v_readFacts v_readSo v_readCommon v_readDay v_seed v_acts v_told v_book v_page v_bookSeed (w1, w2, w3) ho4) (cwV 0 hts gX10_cloth_X10_note rfl rfl rfl (by decide +kernel) ⟨(Nat.le_of_ble_eq_true rfl), (Nat.le_of_ble_eq_true rfl)⟩) ⟨(kb_pre hK hG hP (kb_D hD rfl) hS hA [0, 1, 2, 3] rfl (by decide)).1, (va_recv hK hP (ci := 8) (q0 := 0) rfl rfl), (kb_pre hK hG hP (kb_D hD rfl) hS hA [0, 1, 2, 3] rfl (by decide)).2⟩ rfl rfl hl.1 rfl (lv_room (Nat.le_of_ble_eq_true rfl)) dX10_cloth_6 ⟨Nat.zero_le _, Nat.zero_le _⟩) hP (kb_D hD rfl) hS hA [0, 1, 2, 3] rfl [(true, 0), (true, 1), (true, 2), (true, 3)] (w2 := [oX10 a_th (.int (0 : Int32)) q_text (.int v_textSize) (.int v_place) q_question (.int v_questionSize) (.int v_facts) (.int v_isSo) (.int v_common) (.int v_readFacts) (.int v_readSo) (.int v_readCommon) (.int v_readDay) (.ref a_page) (.long v_seed) (.ref a_book) (.ref a_bookSeed) (.int w1) q_kept q_isKept (.int v_told) q_toldSimple q_toldDay q_toldYes q_yesOf q_noOf q_factOf q_stack q_one q_two q_three, aI cI a_book 120 w2, aI cI a_page 12 v_page, aJ cJ a_bookSeed 10 w3]) rfl (by decide) (fun H locs hP hS => ?_)
  refine lv_aload_n hx hb dX10_cloth_9 rfl (lv_at hl 0 rfl) ?_
  refine va_get (D := (dC, dI)) (ci := 8) (v := .ref a_page) (C := RX10) (T := TX10) (N := 31) hx hb hts iX10 hown hK hP 0 rfl rfl 13 (by decide) f16 (fun _ h9 => h9) rfl dX10_cloth_10 ?_
  refine lv_bipush (v := (10 : Int32)) hx hb dX10_cloth_13 (by decide) ?_
  refine lv_aload_n hx hb dX10_cloth_15 rfl (lv_at hl 0 rfl) ?_
  refine va_get (D := (dC, dI)) (ci := 8) (v := .ref a_page) (C := RX10) (T := TX10) (N := 31) hx hb hts iX10 hown hK hP 0 rfl rfl 13 (by decide) f16 (fun _ h9 => h9) rfl dX10_cloth_16 ?_
  refine lv_bipush (v := (10 : Int32)) hx hb dX10_cloth_19 (by decide) ?_
  refine va_iald hx hb hK hP 2 0 rfl rfl (inB_s (by decide)) dX10_cloth_21 ?_
  refine lv_iconst (v := (1 : Int32)) hx hb dX10_cloth_22 (by decide) ?_
  obtain ⟨k31, ek31, hm⟩ := nm_s hm
  have J31 : ∀ (x5 : Int32) (H : Heap) (locs : List Loc) (ls : Array Slot), k31 x5 = some o → va_P (dC, dI) vwCl [oX10 a_th (.int (0 : Int32)) q_text (.int v_textSize) (.int v_place) q_question (.int v_questionSize) (.int v_facts) (.int v_isSo) (.int v_common) (.int v_readFacts) (.int v_readSo) (.int v_readCommon) (.int v_readDay) (.ref a_page) (.long v_seed) (.ref a_book) (.ref a_bookSeed) (.int w1) q_kept q_isKept (.int v_told) q_toldSimple q_toldDay q_toldYes q_yesOf q_noOf q_factOf q_stack q_one q_two q_three, aI cI a_book 120 w2, aI cI a_page 12 v_page, aJ cJ a_bookSeed 10 w3] H → va_S A s.heap H locs → lv_has ls 1 [(0, .ref a_th)] → W p l e (headSpec wsX10_cloth { frames := 1, cells := 0, slots := 0, locals := 21 }).room s m [.ref a_th].toArray below meth c H locs 0 0 Q (F0 m 31 ls [.int x5, .int (10 : Int32), .ref a_page]) := by
    intro x5 H locs ls hm hP hS hl
    rw [ek31] at hm
    refine va_iast hx hb hK hP (kb_D hD rfl) hS 2 0 rfl rfl (inB_s (by decide)) dX10_cloth_31 (fun H locs hP _ hS => ?_)
    have hP : va_P (dC, dI) vwCl [oX10 a_th (.int (0 : Int32)) q_text (.int v_textSize) (.int v_place) q_question (.int v_questionSize) (.int v_facts) (.int v_isSo) (.int v_common) (.int v_readFacts) (.int v_readSo) (.int v_readCommon) (.int v_readDay) (.ref a_page) (.long v_seed) (.ref a_book) (.ref a_bookSeed) (.int w1) q_kept q_isKept (.int v_told) q_toldSimple q_toldDay q_toldYes q_yesOf q_noOf q_factOf q_stack q_one q_two q_three, aI cI a_book 120 w2, aI cI a_page 12 (upd v_page (Int32.toNatClampNeg (10 : Int32)) x5), aJ cJ a_bookSeed 10 w3] H := hP
    refine lv_aload_n hx hb dX10_cloth_32 rfl (lv_at hl 0 rfl) ?_
    refine va_get (D := (dC, dI)) (ci := 8) (v := .ref a_page) (C := RX10) (T := TX10) (N := 31) hx hb hts iX10 hown hK hP 0 rfl rfl 13 (by decide) f16 (fun _ h9 => h9) rfl dX10_cloth_33 ?_
    refine lv_bipush (v := (10 : Int32)) hx hb dX10_cloth_36 (by decide) ?_
    refine va_iald hx hb hK hP 2 0 rfl rfl (inB_s (by decide)) dX10_cloth_38 ?_
    refine lv_iconst (v := (1 : Int32)) hx hb dX10_cloth_39 (by decide) ?_
    refine lv_icmp_ne (tgt := 47) hx hb dX10_cloth_40 (by decide) (fun c6 => ?_) (fun c6 => ?_)
    · replace hm := ite_f c6 hm
      refine lv_iconst (v := (0 : Int32)) hx hb dX10_cloth_47 (by decide) ?_
      obtain rfl := Option.some.inj hm
      subst hQ
      exact W.iret hx hb hr (fun t ht hW => ⟨⟨_, (), rfl, rfl, kb_h hP ht⟩, hS.F ht⟩) hS.2.2 dX10_cloth_48
    · replace hm := ite_t c6 hm
      refine lv_iconst (v := (1 : Int32)) hx hb dX10_cloth_43 (by decide) ?_
      refine lv_goto (tgt := 48) hx hb dX10_cloth_44 (by decide) ?_
      obtain rfl := Option.some.inj hm
      subst hQ
      exact W.iret hx hb hr (fun t ht hW => ⟨⟨_, (), rfl, rfl, kb_h hP ht⟩, hS.F ht⟩) hS.2.2 dX10_cloth_48
  refine lv_icmp_ne (tgt := 30) hx hb dX10_cloth_23 (by decide) (fun c7 => ?_) (fun c7 => ?_)
  · replace hm := ite_f c7 hm
    refine lv_iconst (v := (1 : Int32)) hx hb dX10_cloth_30 (by decide) ?_
    exact J31 (1 : Int32) _ _ _ hm hP hS (lv_sub hl [0] rfl)
  · replace hm := ite_t c7 hm
    refine lv_iconst (v := (2 : Int32)) hx hb dX10_cloth_26 (by decide) ?_
    refine lv_goto (tgt := 31) hx hb dX10_cloth_27 (by decide) ?_
    exact J31 (2 : Int32) _ _ _ hm hP hS (lv_sub hl [0] rfl)
set_option maxHeartbeats 4000000 in
set_option maxRecDepth 100000 in
theorem c_X10_undo (l : Launch) (dC : Nat → ClassId) (dI : Nat → Nat → Nat) (cI cJ cZ cQ : ClassId) (t sz : Nat) (a_th : Nat) (a_book : Nat) (a_page : Nat) (a_bookSeed : Nat) (q_text : Value) (q_question : Value) (q_kept : Value) (q_isKept : Value) (q_toldSimple : Value) (q_toldDay : Value) (q_toldYes : Value) (q_yesOf : Value) (q_noOf : Value) (q_factOf : Value) (q_stack : Value) (q_one : Value) (q_two : Value) (q_three : Value) (v_thrown : Int32) (v_textSize : Int32) (v_place : Int32) (v_questionSize : Int32) (v_facts : Int32) (v_isSo : Int32) (v_common : Int32) (v_readFacts : Int32) (v_readSo : Int32) (v_readCommon : Int32) (v_readDay : Int32) (v_seed : Int64) (v_acts : Int32) (v_told : Int32) (v_book : (Nat → Int32)) (v_page : (Nat → Int32)) (v_bookSeed : (Nat → Int64)) (o : Int32 × Int32 × Int64 × Int32 × (Nat → Int32)) (hm : m_X10_undo v_thrown v_seed v_acts v_book v_page v_bookSeed = some o) : Met l yX10_undo wsX10_undo { frames := 0, cells := 0, slots := 0, locals := 0 } (va_Pc [.ref a_th] (cP (dC, dI) (kT cI cJ cZ cQ) t sz [oX10 a_th (.int v_thrown) q_text (.int v_textSize) (.int v_place) q_question (.int v_questionSize) (.int v_facts) (.int v_isSo) (.int v_common) (.int v_readFacts) (.int v_readSo) (.int v_readCommon) (.int v_readDay) (.ref a_page) (.long v_seed) (.ref a_book) (.ref a_bookSeed) (.int v_acts) q_kept q_isKept (.int v_told) q_toldSimple q_toldDay q_toldYes q_yesOf q_noOf q_factOf q_stack q_one q_two q_three, aI cI a_book 120 v_book, aI cI a_page 12 v_page, aJ cJ a_bookSeed 10 v_bookSeed])) (cQi (dC, dI) (va_A [oX10 a_th (.int v_thrown) q_text (.int v_textSize) (.int v_place) q_question (.int v_questionSize) (.int v_facts) (.int v_isSo) (.int v_common) (.int v_readFacts) (.int v_readSo) (.int v_readCommon) (.int v_readDay) (.ref a_page) (.long v_seed) (.ref a_book) (.ref a_bookSeed) (.int v_acts) q_kept q_isKept (.int v_told) q_toldSimple q_toldDay q_toldYes q_yesOf q_noOf q_factOf q_stack q_one q_two q_three, aI cI a_book 120 v_book, aI cI a_page 12 v_page, aJ cJ a_bookSeed 10 v_bookSeed] sz) o.1 [oX10 a_th (.int (o.2.1)) q_text (.int v_textSize) (.int v_place) q_question (.int v_questionSize) (.int v_facts) (.int v_isSo) (.int v_common) (.int v_readFacts) (.int v_readSo) (.int v_readCommon) (.int v_readDay) (.ref a_page) (.long (o.2.2.1)) (.ref a_book) (.ref a_bookSeed) (.int (o.2.2.2.1)) q_kept q_isKept (.int v_told) q_toldSimple q_toldDay q_toldYes q_yesOf q_noOf q_factOf q_stack q_one q_two q_three, aI cI a_book 120 v_book, aI cI a_page 12 (o.2.2.2.2), aJ cJ a_bookSeed 10 v_bookSeed]) 0 0 (va_A [oX10 a_th (.int v_thrown) q_text (.int v_textSize) (.int v_place) q_question (.int v_questionSize) (.int v_facts) (.int v_isSo) (.int v_common) (.int v_readFacts) (.int v_readSo) (.int v_readCommon) (.int v_readDay) (.ref a_page) (.long v_seed) (.ref a_book) (.ref a_bookSeed) (.int v_acts) q_kept q_isKept (.int v_told) q_toldSimple q_toldDay q_toldYes q_yesOf q_noOf q_factOf q_stack q_one q_two q_three, aI cI a_book 120 v_book, aI cI a_page 12 v_page, aJ cJ a_bookSeed 10 v_bookSeed] sz) := by
  refine Met.ofW (cc := cX10_undo) (maxL := 2) (ret := (some .int)) (by decide) rfl ?_
  intro p e s m args below meth c s₁ B hml hv
  obtain ⟨rfl, hsz, hP, hK, hD0, hG⟩ := hv
  have hx := B.exec
  have hb := B.bytes
  have hr := B.returns
  have hts := atoms_spec (ws := wsX10_undo) B.pre
  have hown : s.vm.findClass RX10 = some m.cls := findClass_of_methodNamed B.named
  have hlocks := B.notSynchronized
  subst hsz
  have hD := hD0.self (sz := s.heap.size)
  generalize hAe : va_A [oX10 a_th (.int v_thrown) q_text (.int v_textSize) (.int v_place) q_question (.int v_questionSize) (.int v_facts) (.int v_isSo) (.int v_common) (.int v_readFacts) (.int v_readSo) (.int v_readCommon) (.int v_readDay) (.ref a_page) (.long v_seed) (.ref a_book) (.ref a_bookSeed) (.int v_acts) q_kept q_isKept (.int v_told) q_toldSimple q_toldDay q_toldYes q_yesOf q_noOf q_factOf q_stack q_one q_two q_three, aI cI a_book 120 v_book, aI cI a_page 12 v_page, aJ cJ a_bookSeed 10 v_bookSeed] s.heap.size = A at hD hG ⊢
  have hA : ∀ q : Nat, s.heap.size ≤ q → A q := fun q h => by rw [← hAe]; exact Or.inr h
  have hS : va_S A s.heap s.heap [] := va_S.rf
  have hl := lv_entry ([.ref a_th]) (n := 2) (Nat.le_of_ble_eq_true rfl)
  rw [lg_entry_eq]
  generalize (lg_sl ([.ref a_th]) ++ List.replicate (2 - (lg_sl ([.ref a_th])).length) Slot.unset).toArray = ls at hl ⊢
  have hl : lv_has ls 2 [(0, .ref a_th)] := hl
  have iX10 : ∀ w ∈ wsX100, w ∈ wsX10_undo := fun _ h => List.mem_cons_of_mem _ (List.mem_append_right _ h)
  have f66 := hts (.fieldLink RX10 66 "TrueOnceWeekModel" "thrown" "I") (by decide +kernel)
  have f114 := hts (.fieldLink RX10 114 "TrueOnceWeekModel" "acts" "I") (by decide +kernel)
  have f16 := hts (.fieldLink RX10 16 "TrueOnceWeekModel" "page" "[I") (by decide +kernel)
  have f19 := hts (.fieldLink RX10 19 "TrueOnceWeekModel" "book" "[I") (by decide +kernel)
  have f22 := hts (.fieldLink RX10 22 "TrueOnceWeekModel" "bookSeed" "[J") (by decide +kernel)
  have f168 := hts (.fieldLink RX10 168 "TrueOnceWeekModel" "seed" "J") (by decide +kernel)
  refine kb_gen (fun Q hQ => ?_)
  unfold m_X10_undo at hm
  refine lv_aload_n hx hb dX10_undo_0 rfl (lv_at hl 0 rfl) ?_
  refine lv_iconst (v := (0 : Int32)) hx hb dX10_undo_1 (by decide) ?_
  refine va_put (D := (dC, dI)) (ci := 8) (v := .int (0 : Int32)) (ty := .int) (C := RX10) (T := TX10) (N := 31) hx hb hts iX10 tyX10 tyX10_ok nmX10 hown hK hP (kb_D hD rfl) hS 0 rfl rfl 0 (by decide) f66 (fun _ h9 => h9) rfl (by decide +kernel) rfl rfl (Nat.le_of_ble_eq_true rfl) dX10_undo_2 (fun H locs hP _ hS => ?_)
  have hP : va_P (dC, dI) vwCl [oX10 a_th (.int (0 : Int32)) q_text (.int v_textSize) (.int v_place) q_question (.int v_questionSize) (.int v_facts) (.int v_isSo) (.int v_common) (.int v_readFacts) (.int v_readSo) (.int v_readCommon) (.int v_readDay) (.ref a_page) (.long v_seed) (.ref a_book) (.ref a_bookSeed) (.int v_acts) q_kept q_isKept (.int v_told) q_toldSimple q_toldDay q_toldYes q_yesOf q_noOf q_factOf q_stack q_one q_two q_three, aI cI a_book 120 v_book, aI cI a_page 12 v_page, aJ cJ a_bookSeed 10 v_bookSeed] H := hP
  refine lv_aload_n hx hb dX10_undo_5 rfl (lv_at hl 0 rfl) ?_
  refine va_get (D := (dC, dI)) (ci := 8) (v := .int v_acts) (C := RX10) (T := TX10) (N := 31) hx hb hts iX10 hown hK hP 0 rfl rfl 17 (by decide) f114 (fun _ h9 => h9) rfl dX10_undo_6 ?_
  refine lv_if_ne (tgt := 15) hx hb dX10_undo_9 (by decide) (fun c1 => ?_) (fun c1 => ?_)
  · replace hm := ite_f c1 hm
    refine lv_aload_n hx hb dX10_undo_15 rfl (lv_at hl 0 rfl) ?_
    refine lv_dup hx hb dX10_undo_16 rfl ?_
    refine va_get (D := (dC, dI)) (ci := 8) (v := .int v_acts) (C := RX10) (T := TX10) (N := 31) hx hb hts iX10 hown hK hP 0 rfl rfl 17 (by decide) f114 (fun _ h9 => h9) rfl dX10_undo_17 ?_
    refine lv_iconst (v := (1 : Int32)) hx hb dX10_undo_20 (by decide) ?_
    refine lv_isub hx hb dX10_undo_21 ?_
    refine lv_topi (fun x2 ex2 => ?_)
    replace hm := nm_t ex2 hm
    refine va_put (D := (dC, dI)) (ci := 8) (v := .int x2) (ty := .int) (C := RX10) (T := TX10) (N := 31) hx hb hts iX10 tyX10 tyX10_ok nmX10 hown hK hP (kb_D hD rfl) hS 0 rfl rfl 17 (by decide) f114 (fun _ h9 => h9) rfl (by decide +kernel) rfl rfl (Nat.le_of_ble_eq_true rfl) dX10_undo_22 (fun H locs hP _ hS => ?_)
    have hP : va_P (dC, dI) vwCl [oX10 a_th (.int (0 : Int32)) q_text (.int v_textSize) (.int v_place) q_question (.int v_questionSize) (.int v_facts) (.int v_isSo) (.int v_common) (.int v_readFacts) (.int v_readSo) (.int v_readCommon) (.int v_readDay) (.ref a_page) (.long v_seed) (.ref a_book) (.ref a_bookSeed) (.int x2) q_kept q_isKept (.int v_told) q_toldSimple q_toldDay q_toldYes q_yesOf q_noOf q_factOf q_stack q_one q_two q_three, aI cI a_book 120 v_book, aI cI a_page 12 v_page, aJ cJ a_bookSeed 10 v_bookSeed] H := hP
    refine lv_iconst (v := (0 : Int32)) hx hb dX10_undo_25 (by decide) ?_
    refine lv_istore_n (lv' := [(1, .int (0 : Int32)), (0, .ref a_th)]) hx hb dX10_undo_26 rfl hl (by decide) rfl (fun ls hl => ?_)
    have lp27 : ∀ (n27 : Nat) (x3 : Int32) (w4 : (Nat → Int32)) (k27 : (Nat → Int32) → Option (Int32 × Int32 × Int64 × Int32 × (Nat → Int32))) (H : Heap) (locs : List Loc) (ls : Array Slot), L_X10_undo_27 v_book x2 n27 x3 w4 k27 = some o → (∀ (w5 : (Nat → Int32)) (H : Heap) (locs : List Loc) (ls : Array Slot), k27 w5 = some o → va_P (dC, dI) vwCl [oX10 a_th (.int (0 : Int32)) q_text (.int v_textSize) (.int v_place) q_question (.int v_questionSize) (.int v_facts) (.int v_isSo) (.int v_common) (.int v_readFacts) (.int v_readSo) (.int v_readCommon) (.int v_readDay) (.ref a_page) (.long v_seed) (.ref a_book) (.ref a_bookSeed) (.int x2) q_kept q_isKept (.int v_told) q_toldSimple q_toldDay q_toldYes q_yesOf q_noOf q_factOf q_stack q_one q_two q_three, aI cI a_book 120 v_book, aI cI a_page 12 w5, aJ cJ a_bookSeed 10 v_bookSeed] H → va_S A s.heap H locs → lv_has ls 2 [(0, .ref a_th)] → W p l e (headSpec wsX10_undo { frames := 0, cells := 0, slots := 0, locals := 0 }).room s m [.ref a_th].toArray below meth c H locs 0 0 Q (F0 m 59 ls [])) → va_P (dC, dI) vwCl [oX10 a_th (.int (0 : Int32)) q_text (.int v_textSize) (.int v_place) q_question (.int v_questionSize) (.int v_facts) (.int v_isSo) (.int v_common) (.int v_readFacts) (.int v_readSo) (.int v_readCommon) (.int v_readDay) (.ref a_page) (.long v_seed) (.ref a_book) (.ref a_bookSeed) (.int x2) q_kept q_isKept (.int v_told) q_toldSimple q_toldDay q_toldYes q_yesOf q_noOf q_factOf q_stack q_one q_two q_three, aI cI a_book 120 v_book, aI cI a_page 12 w4, aJ cJ a_bookSeed 10 v_bookSeed] H → va_S A s.heap H locs → lv_has ls 2 [(0, .ref a_th), (1, .int x3)] → W p l e (headSpec wsX10_undo { frames := 0, cells := 0, slots := 0, locals := 0 }).room s m [.ref a_th].toArray below meth c H locs 0 0 Q (F0 m 27 ls []) := by
      intro n27
      induction n27 with
      | zero =>
        intro x3 w4 k27 H locs ls hm
        cases (show (none : Option (Int32 × Int32 × Int64 × Int32 × (Nat → Int32))) = some o from hm)
      | succ n27 ih27 =>
        intro x3 w4 k27 H locs ls hm hk27 hP hS hl
        rw [L_X10_undo_27.eq_2] at hm
        refine lv_iload_n hx hb dX10_undo_27 rfl (lv_at hl 1 rfl) ?_
        refine lv_bipush (v := (12 : Int32)) hx hb dX10_undo_28 (by decide) ?_
        refine lv_icmp_ge (tgt := 59) hx hb dX10_undo_30 (by decide) (fun c6 => ?_) (fun c6 => ?_)
        · replace hm := ite_t c6 hm
          exact hk27 w4 _ _ _ hm hP hS (lv_sub hl [0] rfl)
        · replace hm := ite_f c6 hm
          refine lv_aload_n hx hb dX10_undo_33 rfl (lv_at hl 0 rfl) ?_
          refine va_get (D := (dC, dI)) (ci := 8) (v := .ref a_page) (C := RX10) (T := TX10) (N := 31) hx hb hts iX10 hown hK hP 0 rfl rfl 13 (by decide) f16 (fun _ h9 => h9) rfl dX10_undo_34 ?_
          refine lv_iload_n hx hb dX10_undo_37 rfl (lv_at hl 1 rfl) ?_
          refine lv_aload_n hx hb dX10_undo_38 rfl (lv_at hl 0 rfl) ?_
          refine va_get (D := (dC, dI)) (ci := 8) (v := .ref a_book) (C := RX10) (T := TX10) (N := 31) hx hb hts iX10 hown hK hP 0 rfl rfl 15 (by decide) f19 (fun _ h9 => h9) rfl dX10_undo_39 ?_
          refine lv_bipush (v := (12 : Int32)) hx hb dX10_undo_42 (by decide) ?_
          refine lv_aload_n hx hb dX10_undo_44 rfl (lv_at hl 0 rfl) ?_
          refine va_get (D := (dC, dI)) (ci := 8) (v := .int x2) (C := RX10) (T := TX10) (N := 31) hx hb hts iX10 hown hK hP 0 rfl rfl 17 (by decide) f114 (fun _ h9 => h9) rfl dX10_undo_45 ?_
          refine lv_imul hx hb dX10_undo_48 ?_
          refine lv_iload_n hx hb dX10_undo_49 rfl (lv_at hl 1 rfl) ?_
          refine lv_iadd hx hb dX10_undo_50 ?_
          obtain ⟨h7, hm⟩ := gd_s hm
          refine va_iald hx hb hK hP 1 0 rfl rfl (inB_s h7) dX10_undo_51 ?_
          obtain ⟨h8, hm⟩ := gd_s hm
          refine va_iast hx hb hK hP (kb_D hD rfl) hS 2 0 rfl rfl (inB_s h8) dX10_undo_52 (fun H locs hP _ hS => ?_)
          have hP : va_P (dC, dI) vwCl [oX10 a_th (.int (0 : Int32)) q_text (.int v_textSize) (.int v_place) q_question (.int v_questionSize) (.int v_facts) (.int v_isSo) (.int v_common) (.int v_readFacts) (.int v_readSo) (.int v_readCommon) (.int v_readDay) (.ref a_page) (.long v_seed) (.ref a_book) (.ref a_bookSeed) (.int x2) q_kept q_isKept (.int v_told) q_toldSimple q_toldDay q_toldYes q_yesOf q_noOf q_factOf q_stack q_one q_two q_three, aI cI a_book 120 v_book, aI cI a_page 12 (upd w4 (Int32.toNatClampNeg x3) (v_book (Int32.toNatClampNeg (((12 : Int32) * x2) + x3)))), aJ cJ a_bookSeed 10 v_bookSeed] H := hP
          obtain ⟨x9, ex9⟩ : ∃ y : Int32, y = x3 + (1 : Int32) := ⟨_, rfl⟩
          replace hm := nm_t ex9 hm
          refine lv_iinc (v := x9) (lv' := [(1, .int x9), (0, .ref a_th)]) hx hb dX10_undo_53 hl (k := 1) rfl (by rw [ex9]; rfl) (by decide) rfl (fun ls hl => ?_)
          refine lv_goto (tgt := 27) hx hb dX10_undo_56 (by decide) ?_
          exact ih27 x9 (upd w4 (Int32.toNatClampNeg x3) (v_book (Int32.toNatClampNeg (((12 : Int32) * x2) + x3)))) k27 _ _ _ hm hk27 hP hS (lv_sub hl [1, 0] rfl)
    refine lp27 1024 (0 : Int32) v_page _ _ _ _ hm (fun w5 H locs ls hm hP hS hl => ?_) hP hS (lv_sub hl [1, 0] rfl)
    refine lv_aload_n hx hb dX10_undo_59 rfl (lv_at hl 0 rfl) ?_
    refine lv_aload_n hx hb dX10_undo_60 rfl (lv_at hl 0 rfl) ?_
    refine va_get (D := (dC, dI)) (ci := 8) (v := .ref a_bookSeed) (C := RX10) (T := TX10) (N := 31) hx hb hts iX10 hown hK hP 0 rfl rfl 16 (by decide) f22 (fun _ h9 => h9) rfl dX10_undo_61 ?_
    refine lv_aload_n hx hb dX10_undo_64 rfl (lv_at hl 0 rfl) ?_
    refine va_get (D := (dC, dI)) (ci := 8) (v := .int x2) (C := RX10) (T := TX10) (N := 31) hx hb hts iX10 hown hK hP 0 rfl rfl 17 (by decide) f114 (fun _ h9 => h9) rfl dX10_undo_65 ?_
    obtain ⟨h10, hm⟩ := gd_s hm
    refine va_lald hx hb hK hP 3 1 rfl rfl (inB_s h10) dX10_undo_68 ?_
    refine lv_topl (fun x11 ex11 => ?_)
    replace hm := nm_t ex11 hm
    refine va_put (D := (dC, dI)) (ci := 8) (v := .long x11) (ty := .long) (C := RX10) (T := TX10) (N := 31) hx hb hts iX10 tyX10 tyX10_ok nmX10 hown hK hP (kb_D hD rfl) hS 0 rfl rfl 14 (by decide) f168 (fun _ h9 => h9) rfl (by decide +kernel) rfl rfl (Nat.le_of_ble_eq_true rfl) dX10_undo_69 (fun H locs hP _ hS => ?_)
    have hP : va_P (dC, dI) vwCl [oX10 a_th (.int (0 : Int32)) q_text (.int v_textSize) (.int v_place) q_question (.int v_questionSize) (.int v_facts) (.int v_isSo) (.int v_common) (.int v_readFacts) (.int v_readSo) (.int v_readCommon) (.int v_readDay) (.ref a_page) (.long x11) (.ref a_book) (.ref a_bookSeed) (.int x2) q_kept q_isKept (.int v_told) q_toldSimple q_toldDay q_toldYes q_yesOf q_noOf q_factOf q_stack q_one q_two q_three, aI cI a_book 120 v_book, aI cI a_page 12 w5, aJ cJ a_bookSeed 10 v_bookSeed] H := hP
    refine lv_aload_n hx hb dX10_undo_72 rfl (lv_at hl 0 rfl) ?_
    refine va_get (D := (dC, dI)) (ci := 8) (v := .int x2) (C := RX10) (T := TX10) (N := 31) hx hb hts iX10 hown hK hP 0 rfl rfl 17 (by decide) f114 (fun _ h9 => h9) rfl dX10_undo_73 ?_
    obtain rfl := Option.some.inj hm
    subst hQ
    exact W.iret hx hb hr (fun t ht hW => ⟨⟨_, (), rfl, rfl, kb_h hP ht⟩, hS.F ht⟩) hS.2.2 dX10_undo_76
  · replace hm := ite_t c1 hm
    refine lv_bipush (v := (-3 : Int32)) hx hb dX10_undo_12 (by decide) ?_
    obtain rfl := Option.some.inj hm
    subst hQ
    exact W.iret hx hb hr (fun t ht hW => ⟨⟨_, (), rfl, rfl, kb_h hP ht⟩, hS.F ht⟩) hS.2.2 dX10_undo_14
set_option maxHeartbeats 4000000 in
set_option maxRecDepth 100000 in
theorem c_X10_answer (l : Launch) (dC : Nat → ClassId) (dI : Nat → Nat → Nat) (cI cJ cZ cQ : ClassId) (t sz : Nat) (a_th : Nat) (a_question : Nat) (a_page : Nat) (a_stack : Nat) (q_text : Value) (q_book : Value) (q_bookSeed : Value) (q_kept : Value) (q_isKept : Value) (q_toldSimple : Value) (q_toldDay : Value) (q_toldYes : Value) (q_yesOf : Value) (q_noOf : Value) (q_factOf : Value) (q_one : Value) (q_two : Value) (q_three : Value) (v_thrown : Int32) (v_textSize : Int32) (v_place : Int32) (v_questionSize : Int32) (v_facts : Int32) (v_isSo : Int32) (v_common : Int32) (v_readFacts : Int32) (v_readSo : Int32) (v_readCommon : Int32) (v_readDay : Int32) (v_seed : Int64) (v_acts : Int32) (v_told : Int32) (v_question : (Nat → Int32)) (v_page : (Nat → Int32)) (v_stack : (Nat → Int32)) (p_1 : Int32) (p_2 : Int32) (o : Int32 × Int32 × (Nat → Int32)) (hm : m_X10_answer p_1 p_2 v_thrown v_questionSize v_facts v_question v_page v_stack = some o) : Met l yX10_answer wsX10_answer { frames := 4, cells := 0, slots := 0, locals := 104 } (va_Pc [.ref a_th, .int p_1, .int p_2] (cP (dC, dI) (kT cI cJ cZ cQ) t sz [oX10 a_th (.int v_thrown) q_text (.int v_textSize) (.int v_place) (.ref a_question) (.int v_questionSize) (.int v_facts) (.int v_isSo) (.int v_common) (.int v_readFacts) (.int v_readSo) (.int v_readCommon) (.int v_readDay) (.ref a_page) (.long v_seed) q_book q_bookSeed (.int v_acts) q_kept q_isKept (.int v_told) q_toldSimple q_toldDay q_toldYes q_yesOf q_noOf q_factOf (.ref a_stack) q_one q_two q_three, aI cI a_question 16 v_question, aI cI a_page 12 v_page, aI cZ a_stack 17 v_stack])) (cQi (dC, dI) (va_A [oX10 a_th (.int v_thrown) q_text (.int v_textSize) (.int v_place) (.ref a_question) (.int v_questionSize) (.int v_facts) (.int v_isSo) (.int v_common) (.int v_readFacts) (.int v_readSo) (.int v_readCommon) (.int v_readDay) (.ref a_page) (.long v_seed) q_book q_bookSeed (.int v_acts) q_kept q_isKept (.int v_told) q_toldSimple q_toldDay q_toldYes q_yesOf q_noOf q_factOf (.ref a_stack) q_one q_two q_three, aI cI a_question 16 v_question, aI cI a_page 12 v_page, aI cZ a_stack 17 v_stack] sz) o.1 [oX10 a_th (.int (o.2.1)) q_text (.int v_textSize) (.int v_place) (.ref a_question) (.int v_questionSize) (.int v_facts) (.int v_isSo) (.int v_common) (.int v_readFacts) (.int v_readSo) (.int v_readCommon) (.int v_readDay) (.ref a_page) (.long v_seed) q_book q_bookSeed (.int v_acts) q_kept q_isKept (.int v_told) q_toldSimple q_toldDay q_toldYes q_yesOf q_noOf q_factOf (.ref a_stack) q_one q_two q_three, aI cI a_question 16 v_question, aI cI a_page 12 v_page, aI cZ a_stack 17 (o.2.2)]) 0 0 (va_A [oX10 a_th (.int v_thrown) q_text (.int v_textSize) (.int v_place) (.ref a_question) (.int v_questionSize) (.int v_facts) (.int v_isSo) (.int v_common) (.int v_readFacts) (.int v_readSo) (.int v_readCommon) (.int v_readDay) (.ref a_page) (.long v_seed) q_book q_bookSeed (.int v_acts) q_kept q_isKept (.int v_told) q_toldSimple q_toldDay q_toldYes q_yesOf q_noOf q_factOf (.ref a_stack) q_one q_two q_three, aI cI a_question 16 v_question, aI cI a_page 12 v_page, aI cZ a_stack 17 v_stack] sz) := by
  refine Met.ofW (cc := cX10_answer) (maxL := 3) (ret := (some .int)) (by decide) rfl ?_
  intro p e s m args below meth c s₁ B hml hv
  obtain ⟨rfl, hsz, hP, hK, hD0, hG⟩ := hv
  have hx := B.exec
  have hb := B.bytes
  have hr := B.returns
  have hts := atoms_spec (ws := wsX10_answer) B.pre
  have hown : s.vm.findClass RX10 = some m.cls := findClass_of_methodNamed B.named
  have hlocks := B.notSynchronized
  subst hsz
  have hD := hD0.self (sz := s.heap.size)
  generalize hAe : va_A [oX10 a_th (.int v_thrown) q_text (.int v_textSize) (.int v_place) (.ref a_question) (.int v_questionSize) (.int v_facts) (.int v_isSo) (.int v_common) (.int v_readFacts) (.int v_readSo) (.int v_readCommon) (.int v_readDay) (.ref a_page) (.long v_seed) q_book q_bookSeed (.int v_acts) q_kept q_isKept (.int v_told) q_toldSimple q_toldDay q_toldYes q_yesOf q_noOf q_factOf (.ref a_stack) q_one q_two q_three, aI cI a_question 16 v_question, aI cI a_page 12 v_page, aI cZ a_stack 17 v_stack] s.heap.size = A at hD hG ⊢
  have hA : ∀ q : Nat, s.heap.size ≤ q → A q := fun q h => by rw [← hAe]; exact Or.inr h
  have hS : va_S A s.heap s.heap [] := va_S.rf
  have hl := lv_entry ([.ref a_th, .int p_1, .int p_2]) (n := 3) (Nat.le_of_ble_eq_true rfl)
  rw [lg_entry_eq]
  generalize (lg_sl ([.ref a_th, .int p_1, .int p_2]) ++ List.replicate (3 - (lg_sl ([.ref a_th, .int p_1, .int p_2])).length) Slot.unset).toArray = ls at hl ⊢
  have hl : lv_has ls 3 [(0, .ref a_th), (1, .int p_1), (2, .int p_2)] := hl
  have iX10 : ∀ w ∈ wsX100, w ∈ wsX10_answer := fun _ h => List.mem_cons_of_mem _ (List.mem_append_right _ h)
  have f66 := hts (.fieldLink RX10 66 "TrueOnceWeekModel" "thrown" "I") (by decide +kernel)
  have cl120 := hts (.constantLong RX10 120 (6 : Int64)) (by decide +kernel)
  have f102 := hts (.fieldLink RX10 102 "TrueOnceWeekModel" "facts" "I") (by decide +kernel)
  have f16 := hts (.fieldLink RX10 16 "TrueOnceWeekModel" "page" "[I") (by decide +kernel)
  refine kb_gen (fun Q hQ => ?_)
  unfold m_X10_answer at hm
  refine lv_aload_n hx hb dX10_answer_0 rfl (lv_at hl 0 rfl) ?_
  refine lv_iconst (v := (0 : Int32)) hx hb dX10_answer_1 (by decide) ?_
  refine va_put (D := (dC, dI)) (ci := 8) (v := .int (0 : Int32)) (ty := .int) (C := RX10) (T := TX10) (N := 31) hx hb hts iX10 tyX10 tyX10_ok nmX10 hown hK hP (kb_D hD rfl) hS 0 rfl rfl 0 (by decide) f66 (fun _ h9 => h9) rfl (by decide +kernel) rfl rfl (Nat.le_of_ble_eq_true rfl) dX10_answer_2 (fun H locs hP _ hS => ?_)
  have hP : va_P (dC, dI) vwCl [oX10 a_th (.int (0 : Int32)) q_text (.int v_textSize) (.int v_place) (.ref a_question) (.int v_questionSize) (.int v_facts) (.int v_isSo) (.int v_common) (.int v_readFacts) (.int v_readSo) (.int v_readCommon) (.int v_readDay) (.ref a_page) (.long v_seed) q_book q_bookSeed (.int v_acts) q_kept q_isKept (.int v_told) q_toldSimple q_toldDay q_toldYes q_yesOf q_noOf q_factOf (.ref a_stack) q_one q_two q_three, aI cI a_question 16 v_question, aI cI a_page 12 v_page, aI cZ a_stack 17 v_stack] H := hP
  refine lv_iload_n hx hb dX10_answer_5 rfl (lv_at hl 1 rfl) ?_
  refine lv_i2l (v := (Int32.toInt64 p_1)) hx hb dX10_answer_6 rfl ?_
  refine lv_lconst (v := (0 : Int64)) hx hb dX10_answer_7 (by decide) ?_
  refine lv_ldc2 (v := (6 : Int64)) hx hb hown cl120 dX10_answer_8 ?_
  obtain ⟨r1, ho2, hm⟩ := bd1_s hm
  refine kb_calli (Rv := r1) (va_runS (As := [.long (Int32.toInt64 p_1), .long (0 : Int64), .long (6 : Int64)]) (rest := []) ⟨hx, hb, hml, hown, hts⟩ (c_X10_in l dC dI cI cJ cZ cQ t H.size (Int32.toInt64 p_1) (0 : Int64) (6 : Int64) (r1) ho2) (va_cwS 3 hts gX10_answer_X10_in rfl rfl rfl (by decide +kernel) ⟨(Nat.le_of_ble_eq_true rfl), (Nat.le_of_ble_eq_true rfl)⟩) (kb_pre hK hG hP (kb_D hD rfl) hS hA [] rfl (by decide)) rfl rfl hl.1 rfl (lv_room (Nat.le_of_ble_eq_true rfl)) dX10_answer_11 ⟨Nat.zero_le _, Nat.zero_le _⟩) hP (kb_D hD rfl) hS hA [] rfl [(false, 0), (false, 1), (false, 2), (false, 3)] (w2 := [oX10 a_th (.int (0 : Int32)) q_text (.int v_textSize) (.int v_place) (.ref a_question) (.int v_questionSize) (.int v_facts) (.int v_isSo) (.int v_common) (.int v_readFacts) (.int v_readSo) (.int v_readCommon) (.int v_readDay) (.ref a_page) (.long v_seed) q_book q_bookSeed (.int v_acts) q_kept q_isKept (.int v_told) q_toldSimple q_toldDay q_toldYes q_yesOf q_noOf q_factOf (.ref a_stack) q_one q_two q_three, aI cI a_question 16 v_question, aI cI a_page 12 v_page, aI cZ a_stack 17 v_stack]) rfl (by decide) (fun H locs hP hS => ?_)
  refine lv_if_eq (tgt := 35) hx hb dX10_answer_14 (by decide) (fun c3 => ?_) (fun c3 => ?_)
  · replace hm := ite_t c3 hm
    refine lv_bipush (v := (-2 : Int32)) hx hb dX10_answer_35 (by decide) ?_
    obtain rfl := Option.some.inj hm
    subst hQ
    exact W.iret hx hb hr (fun t ht hW => ⟨⟨_, (), rfl, rfl, kb_h hP ht⟩, hS.F ht⟩) hS.2.2 dX10_answer_37
  · replace hm := ite_f c3 hm
    refine lv_iload_n hx hb dX10_answer_17 rfl (lv_at hl 2 rfl) ?_
    refine lv_i2l (v := (Int32.toInt64 p_2)) hx hb dX10_answer_18 rfl ?_
    refine lv_lconst (v := (0 : Int64)) hx hb dX10_answer_19 (by decide) ?_
    refine lv_iconst (v := (1 : Int32)) hx hb dX10_answer_20 (by decide) ?_
    refine lv_aload_n hx hb dX10_answer_21 rfl (lv_at hl 0 rfl) ?_
    refine va_get (D := (dC, dI)) (ci := 8) (v := .int v_facts) (C := RX10) (T := TX10) (N := 31) hx hb hts iX10 hown hK hP 0 rfl rfl 6 (by decide) f102 (fun _ h9 => h9) rfl dX10_answer_22 ?_
    refine lv_ishl hx hb dX10_answer_25 ?_
    refine lv_iconst (v := (1 : Int32)) hx hb dX10_answer_26 (by decide) ?_
    refine lv_isub hx hb dX10_answer_27 ?_
    refine lv_i2l (v := (Int32.toInt64 (((1 : Int32) <<< (v_facts &&& 31)) - (1 : Int32)))) hx hb dX10_answer_28 rfl ?_
    obtain ⟨r4, ho5, hm⟩ := bd1_s hm
    refine kb_calli (Rv := r4) (va_runS (As := [.long (Int32.toInt64 p_2), .long (0 : Int64), .long (Int32.toInt64 (((1 : Int32) <<< (v_facts &&& 31)) - (1 : Int32)))]) (rest := []) ⟨hx, hb, hml, hown, hts⟩ (c_X10_in l dC dI cI cJ cZ cQ t H.size (Int32.toInt64 p_2) (0 : Int64) (Int32.toInt64 (((1 : Int32) <<< (v_facts &&& 31)) - (1 : Int32))) (r4) ho5) (va_cwS 3 hts gX10_answer_X10_in rfl rfl rfl (by decide +kernel) ⟨(Nat.le_of_ble_eq_true rfl), (Nat.le_of_ble_eq_true rfl)⟩) (kb_pre hK hG hP (kb_D hD rfl) hS hA [] rfl (by decide)) rfl rfl hl.1 rfl (lv_room (Nat.le_of_ble_eq_true rfl)) dX10_answer_29 ⟨Nat.zero_le _, Nat.zero_le _⟩) hP (kb_D hD rfl) hS hA [] rfl [(false, 0), (false, 1), (false, 2), (false, 3)] (w2 := [oX10 a_th (.int (0 : Int32)) q_text (.int v_textSize) (.int v_place) (.ref a_question) (.int v_questionSize) (.int v_facts) (.int v_isSo) (.int v_common) (.int v_readFacts) (.int v_readSo) (.int v_readCommon) (.int v_readDay) (.ref a_page) (.long v_seed) q_book q_bookSeed (.int v_acts) q_kept q_isKept (.int v_told) q_toldSimple q_toldDay q_toldYes q_yesOf q_noOf q_factOf (.ref a_stack) q_one q_two q_three, aI cI a_question 16 v_question, aI cI a_page 12 v_page, aI cZ a_stack 17 v_stack]) rfl (by decide) (fun H locs hP hS => ?_)
    refine lv_if_ne (tgt := 38) hx hb dX10_answer_32 (by decide) (fun c6 => ?_) (fun c6 => ?_)
    · replace hm := ite_f c6 hm
      refine lv_aload_n hx hb dX10_answer_38 rfl (lv_at hl 0 rfl) ?_
      obtain ⟨r7, ho8, hm⟩ := bd1_s hm
      refine kb_calli (Rv := r7) (va_runV (As := []) (rest := []) ⟨hx, hb, hml, hown, hts⟩ (c_X10_slipOf l dC dI cI cJ cZ cQ t H.size a_th a_question q_text (.ref a_page) q_book q_bookSeed q_kept q_isKept q_toldSimple q_toldDay q_toldYes q_yesOf q_noOf q_factOf (.ref a_stack) q_one q_two q_three (0 : Int32) v_textSize v_place v_questionSize v_facts v_isSo v_common v_readFacts v_readSo v_readCommon v_readDay v_seed v_acts v_told v_question (r7) ho8) (cwV 0 hts gX10_answer_X10_slipOf rfl rfl rfl (by decide +kernel) ⟨(Nat.le_of_ble_eq_true rfl), (Nat.le_of_ble_eq_true rfl)⟩) ⟨(kb_pre hK hG hP (kb_D hD rfl) hS hA [0, 1] rfl (by decide)).1, (va_recv hK hP (ci := 8) (q0 := 0) rfl rfl), (kb_pre hK hG hP (kb_D hD rfl) hS hA [0, 1] rfl (by decide)).2⟩ rfl rfl hl.1 rfl (lv_room (Nat.le_of_ble_eq_true rfl)) dX10_answer_39 ⟨Nat.zero_le _, Nat.zero_le _⟩) hP (kb_D hD rfl) hS hA [0, 1] rfl [(true, 0), (true, 1), (false, 2), (false, 3)] (w2 := [oX10 a_th (.int (0 : Int32)) q_text (.int v_textSize) (.int v_place) (.ref a_question) (.int v_questionSize) (.int v_facts) (.int v_isSo) (.int v_common) (.int v_readFacts) (.int v_readSo) (.int v_readCommon) (.int v_readDay) (.ref a_page) (.long v_seed) q_book q_bookSeed (.int v_acts) q_kept q_isKept (.int v_told) q_toldSimple q_toldDay q_toldYes q_yesOf q_noOf q_factOf (.ref a_stack) q_one q_two q_three, aI cI a_question 16 v_question, aI cI a_page 12 v_page, aI cZ a_stack 17 v_stack]) rfl (by decide) (fun H locs hP hS => ?_)
      refine lv_bipush (v := (-9 : Int32)) hx hb dX10_answer_42 (by decide) ?_
      refine lv_icmp_eq (tgt := 52) hx hb dX10_answer_44 (by decide) (fun c9 => ?_) (fun c9 => ?_)
      · replace hm := ite_t c9 hm
        refine lv_aload_n hx hb dX10_answer_52 rfl (lv_at hl 0 rfl) ?_
        refine lv_bipush (v := (-9 : Int32)) hx hb dX10_answer_53 (by decide) ?_
        refine lv_aload_n hx hb dX10_answer_55 rfl (lv_at hl 0 rfl) ?_
        refine va_get (D := (dC, dI)) (ci := 8) (v := .ref a_page) (C := RX10) (T := TX10) (N := 31) hx hb hts iX10 hown hK hP 0 rfl rfl 13 (by decide) f16 (fun _ h9 => h9) rfl dX10_answer_56 ?_
        refine lv_bipush (v := (7 : Int32)) hx hb dX10_answer_59 (by decide) ?_
        refine va_iald hx hb hK hP 2 0 rfl rfl (inB_s (by decide)) dX10_answer_61 ?_
        refine lv_iload_n hx hb dX10_answer_62 rfl (lv_at hl 1 rfl) ?_
        refine lv_iload_n hx hb dX10_answer_63 rfl (lv_at hl 1 rfl) ?_
        refine lv_iload_n hx hb dX10_answer_64 rfl (lv_at hl 2 rfl) ?_
        obtain ⟨r10, w11, ho12, hm⟩ := bd2_s hm
        refine kb_calli (Rv := r10) (va_runV (As := [.int (-9 : Int32), .int (v_page (Int32.toNatClampNeg (7 : Int32))), .int p_1, .int p_1, .int p_2]) (rest := []) ⟨hx, hb, hml, hown, hts⟩ (c_X10_answerOf l dC dI cI cJ cZ cQ t H.size a_th a_question a_stack q_text (.ref a_page) q_book q_bookSeed q_kept q_isKept q_toldSimple q_toldDay q_toldYes q_yesOf q_noOf q_factOf q_one q_two q_three (0 : Int32) v_textSize v_place v_questionSize v_facts v_isSo v_common v_readFacts v_readSo v_readCommon v_readDay v_seed v_acts v_told v_question v_stack (-9 : Int32) (v_page (Int32.toNatClampNeg (7 : Int32))) p_1 p_1 p_2 (r10, w11) ho12) (cwV 5 hts gX10_answer_X10_answerOf rfl rfl rfl (by decide +kernel) ⟨(Nat.le_of_ble_eq_true rfl), (Nat.le_of_ble_eq_true rfl)⟩) ⟨(kb_pre hK hG hP (kb_D hD rfl) hS hA [0, 1, 3] rfl (by decide)).1, (va_recv hK hP (ci := 8) (q0 := 0) rfl rfl), (kb_pre hK hG hP (kb_D hD rfl) hS hA [0, 1, 3] rfl (by decide)).2⟩ rfl rfl hl.1 rfl (lv_room (Nat.le_of_ble_eq_true rfl)) dX10_answer_65 ⟨Nat.zero_le _, Nat.zero_le _⟩) hP (kb_D hD rfl) hS hA [0, 1, 3] rfl [(true, 0), (true, 1), (false, 2), (true, 2)] (w2 := [oX10 a_th (.int (0 : Int32)) q_text (.int v_textSize) (.int v_place) (.ref a_question) (.int v_questionSize) (.int v_facts) (.int v_isSo) (.int v_common) (.int v_readFacts) (.int v_readSo) (.int v_readCommon) (.int v_readDay) (.ref a_page) (.long v_seed) q_book q_bookSeed (.int v_acts) q_kept q_isKept (.int v_told) q_toldSimple q_toldDay q_toldYes q_yesOf q_noOf q_factOf (.ref a_stack) q_one q_two q_three, aI cI a_question 16 v_question, aI cI a_page 12 v_page, aI cZ a_stack 17 w11]) rfl (by decide) (fun H locs hP hS => ?_)
        obtain rfl := Option.some.inj hm
        subst hQ
        exact W.iret hx hb hr (fun t ht hW => ⟨⟨_, (), rfl, rfl, kb_h hP ht⟩, hS.F ht⟩) hS.2.2 dX10_answer_68
      · replace hm := ite_f c9 hm
        refine lv_bipush (v := (-3 : Int32)) hx hb dX10_answer_47 (by decide) ?_
        refine lv_goto (tgt := 68) hx hb dX10_answer_49 (by decide) ?_
        obtain rfl := Option.some.inj hm
        subst hQ
        exact W.iret hx hb hr (fun t ht hW => ⟨⟨_, (), rfl, rfl, kb_h hP ht⟩, hS.F ht⟩) hS.2.2 dX10_answer_68
    · replace hm := ite_t c6 hm
      refine lv_bipush (v := (-2 : Int32)) hx hb dX10_answer_35 (by decide) ?_
      obtain rfl := Option.some.inj hm
      subst hQ
      exact W.iret hx hb hr (fun t ht hW => ⟨⟨_, (), rfl, rfl, kb_h hP ht⟩, hS.F ht⟩) hS.2.2 dX10_answer_37
