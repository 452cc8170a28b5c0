set_option maxHeartbeats 4000000 in
set_option maxRecDepth 100000 in
theorem c_X9_both (l : Launch) (dC : Nat → ClassId) (dI : Nat → Nat → Nat) (cI cJ cZ cQ : ClassId) (t sz : Nat) (a_th : Nat) (a_theQuestion : Nat) (a_theQuestion_letters : Nat) (a_theQuestion_letters_bytes : Nat) (a_theCastle : Nat) (a_now : Nat) (a_theQuestion_stack : Nat) (a_now_known : Nat) (n_theQuestion_letters_bytes : Nat) (q_theText : Value) (q_theActs : Value) (q_theTold : Value) (q_foresight : Value) (q_keptMoments : Value) (q_isKept : Value) (q_marchWorlds : Value) (v_theSeed : Int64) (v_theQuestion_letters_length : Int32) (v_theQuestion_letters_bytes : (Nat → Int32)) (v_theCastle_facts : Int32) (v_theCastle_so : Int32) (v_theCastle_common : Int32) (v_theCastle_cases : Int32) (v_theCastle_firstTrueDay : Int32) (v_now_date : Int32) (v_now_trueDay : Int32) (v_now_wasAsked : Int32) (v_now_clothState : Int32) (v_now_cracks : Int32) (v_theQuestion_stack : (Nat → Int32)) (v_now_known : (Nat → Int32)) (p_1 : Int32) (o : Int32 × (Nat → Int32)) (hm : m_X9_both p_1 n_theQuestion_letters_bytes v_theQuestion_letters_length v_theQuestion_letters_bytes v_theCastle_facts v_theCastle_so v_now_date v_now_trueDay v_theQuestion_stack v_now_known = some o) : Met l yX9_both wsX9_both { frames := 6, cells := 0, slots := 0, locals := 144 } (va_Pc [.ref a_th, .int p_1] (cP (dC, dI) (kT cI cJ cZ cQ) t sz [oX9 a_th q_theText (.ref a_theQuestion) (.ref a_theCastle) (.ref a_now) q_theActs q_theTold q_foresight q_keptMoments q_isKept q_marchWorlds (.long v_theSeed), oX5 a_theQuestion (.ref a_theQuestion_letters) (.ref a_theQuestion_stack), oX3 a_theQuestion_letters (.ref a_theQuestion_letters_bytes) (.int v_theQuestion_letters_length), aI cI a_theQuestion_letters_bytes n_theQuestion_letters_bytes v_theQuestion_letters_bytes, oX1 a_theCastle (.int v_theCastle_facts) (.int v_theCastle_so) (.int v_theCastle_common) (.int v_theCastle_cases) (.int v_theCastle_firstTrueDay), oX4 a_now (.int v_now_date) (.int v_now_trueDay) (.int v_now_wasAsked) (.int v_now_clothState) (.int v_now_cracks) (.ref a_now_known), aI cI a_theQuestion_stack 16 v_theQuestion_stack, aI cI a_now_known 7 v_now_known])) (cQi (dC, dI) (va_A [oX9 a_th q_theText (.ref a_theQuestion) (.ref a_theCastle) (.ref a_now) q_theActs q_theTold q_foresight q_keptMoments q_isKept q_marchWorlds (.long v_theSeed), oX5 a_theQuestion (.ref a_theQuestion_letters) (.ref a_theQuestion_stack), oX3 a_theQuestion_letters (.ref a_theQuestion_letters_bytes) (.int v_theQuestion_letters_length), aI cI a_theQuestion_letters_bytes n_theQuestion_letters_bytes v_theQuestion_letters_bytes, oX1 a_theCastle (.int v_theCastle_facts) (.int v_theCastle_so) (.int v_theCastle_common) (.int v_theCastle_cases) (.int v_theCastle_firstTrueDay), oX4 a_now (.int v_now_date) (.int v_now_trueDay) (.int v_now_wasAsked) (.int v_now_clothState) (.int v_now_cracks) (.ref a_now_known), aI cI a_theQuestion_stack 16 v_theQuestion_stack, aI cI a_now_known 7 v_now_known] sz) o.1 [oX9 a_th q_theText (.ref a_theQuestion) (.ref a_theCastle) (.ref a_now) q_theActs q_theTold q_foresight q_keptMoments q_isKept q_marchWorlds (.long v_theSeed), oX5 a_theQuestion (.ref a_theQuestion_letters) (.ref a_theQuestion_stack), oX3 a_theQuestion_letters (.ref a_theQuestion_letters_bytes) (.int v_theQuestion_letters_length), aI cI a_theQuestion_letters_bytes n_theQuestion_letters_bytes v_theQuestion_letters_bytes, oX1 a_theCastle (.int v_theCastle_facts) (.int v_theCastle_so) (.int v_theCastle_common) (.int v_theCastle_cases) (.int v_theCastle_firstTrueDay), oX4 a_now (.int v_now_date) (.int v_now_trueDay) (.int v_now_wasAsked) (.int v_now_clothState) (.int v_now_cracks) (.ref a_now_known), aI cI a_theQuestion_stack 16 (o.2), aI cI a_now_known 7 v_now_known]) 0 0 (va_A [oX9 a_th q_theText (.ref a_theQuestion) (.ref a_theCastle) (.ref a_now) q_theActs q_theTold q_foresight q_keptMoments q_isKept q_marchWorlds (.long v_theSeed), oX5 a_theQuestion (.ref a_theQuestion_letters) (.ref a_theQuestion_stack), oX3 a_theQuestion_letters (.ref a_theQuestion_letters_bytes) (.int v_theQuestion_letters_length), aI cI a_theQuestion_letters_bytes n_theQuestion_letters_bytes v_theQuestion_letters_bytes, oX1 a_theCastle (.int v_theCastle_facts) (.int v_theCastle_so) (.int v_theCastle_common) (.int v_theCastle_cases) (.int v_theCastle_firstTrueDay), oX4 a_now (.int v_now_date) (.int v_now_trueDay) (.int v_now_wasAsked) (.int v_now_clothState) (.int v_now_cracks) (.ref a_now_known), aI cI a_theQuestion_stack 16 v_theQuestion_stack, aI cI a_now_known 7 v_now_known] sz) := by
  refine Met.ofW (cc := cX9_both) (maxL := 2) (ret := (some .int)) (by decide) rfl ?_
  intro p e s m args below meth c s₁ B hml hv
  obtain ⟨rfl, hsz, hP, hK, hD0, hG⟩ := hv
  have hx := B.exec
  have hb := B.bytes
  have hr := B.returns
  have hts := atoms_spec (ws := wsX9_both) B.pre
  have hown : s.vm.findClass RX9 = some m.cls := findClass_of_methodNamed B.named
  have hlocks := B.notSynchronized
  subst hsz
  have hD := hD0.self (sz := s.heap.size)
  generalize hAe : va_A [oX9 a_th q_theText (.ref a_theQuestion) (.ref a_theCastle) (.ref a_now) q_theActs q_theTold q_foresight q_keptMoments q_isKept q_marchWorlds (.long v_theSeed), oX5 a_theQuestion (.ref a_theQuestion_letters) (.ref a_theQuestion_stack), oX3 a_theQuestion_letters (.ref a_theQuestion_letters_bytes) (.int v_theQuestion_letters_length), aI cI a_theQuestion_letters_bytes n_theQuestion_letters_bytes v_theQuestion_letters_bytes, oX1 a_theCastle (.int v_theCastle_facts) (.int v_theCastle_so) (.int v_theCastle_common) (.int v_theCastle_cases) (.int v_theCastle_firstTrueDay), oX4 a_now (.int v_now_date) (.int v_now_trueDay) (.int v_now_wasAsked) (.int v_now_clothState) (.int v_now_cracks) (.ref a_now_known), aI cI a_theQuestion_stack 16 v_theQuestion_stack, aI cI a_now_known 7 v_now_known] s.heap.size = A at hD hG ⊢
  have hA : ∀ q : Nat, s.heap.size ≤ q → A q := fun q h => by rw [← hAe]; exact Or.inr h
  have hS : va_S A s.heap s.heap [] := va_S.rf
  have hl := lv_entry ([.ref a_th, .int p_1]) (n := 2) (Nat.le_of_ble_eq_true rfl)
  rw [lg_entry_eq]
  generalize (lg_sl ([.ref a_th, .int p_1]) ++ List.replicate (2 - (lg_sl ([.ref a_th, .int p_1])).length) Slot.unset).toArray = ls at hl ⊢
  have hl : lv_has ls 2 [(0, .ref a_th), (1, .int p_1)] := hl
  have iX9 : ∀ w ∈ wsX90, w ∈ wsX9_both := fun _ h => List.mem_cons_of_mem _ (List.mem_append_left _ (List.mem_append_left _ (List.mem_append_left _ (List.mem_append_left _ (List.mem_append_right _ h)))))
  have iX5 : ∀ w ∈ wsX50, w ∈ wsX9_both := fun _ h => List.mem_cons_of_mem _ (List.mem_append_left _ (List.mem_append_left _ (List.mem_append_left _ (List.mem_append_right _ h))))
  have iX3 : ∀ w ∈ wsX30, w ∈ wsX9_both := fun _ h => List.mem_cons_of_mem _ (List.mem_append_left _ (List.mem_append_left _ (List.mem_append_right _ h)))
  have iX1 : ∀ w ∈ wsX10, w ∈ wsX9_both := fun _ h => List.mem_cons_of_mem _ (List.mem_append_left _ (List.mem_append_right _ h))
  have iX4 : ∀ w ∈ wsX40, w ∈ wsX9_both := fun _ h => List.mem_cons_of_mem _ (List.mem_append_right _ h)
  refine kb_gen (fun Q hQ => ?_)
  unfold m_X9_both at hm
  refine lv_iload_n hx hb dX9_both_0 rfl (lv_at hl 1 rfl) ?_
  refine lv_if_lt (tgt := 9) hx hb dX9_both_1 (by decide) (fun c1 => ?_) (fun c1 => ?_)
  · replace hm := ite_t c1 hm
    refine lv_bipush (v := (-2 : Int32)) hx hb dX9_both_9 (by decide) ?_
    obtain rfl := Option.some.inj hm
    subst hQ
    exact W.iret hx hb hr (fun t ht hW => ⟨⟨_, (), rfl, rfl, kb_h hP ht⟩, hS.F ht⟩) hS.2.2 dX9_both_11
  · replace hm := ite_f c1 hm
    refine lv_iload_n hx hb dX9_both_4 rfl (lv_at hl 1 rfl) ?_
    refine lv_iconst (v := (1 : Int32)) hx hb dX9_both_5 (by decide) ?_
    refine lv_icmp_le (tgt := 12) hx hb dX9_both_6 (by decide) (fun c2 => ?_) (fun c2 => ?_)
    · replace hm := ite_t c2 hm
      refine lv_aload_n hx hb dX9_both_12 rfl (lv_at hl 0 rfl) ?_
      obtain ⟨r3, ho4, hm⟩ := bd1_s hm
      refine kb_calli (Rv := r3) (va_runV (As := []) (rest := []) ⟨hx, hb, hml, hown, hts⟩ (c_X9_hasSlip l dC dI cI cJ cZ cQ t s.heap.size a_th a_theQuestion a_theQuestion_letters a_theQuestion_letters_bytes a_theCastle n_theQuestion_letters_bytes q_theText (.ref a_now) q_theActs q_theTold q_foresight q_keptMoments q_isKept q_marchWorlds (.ref a_theQuestion_stack) v_theSeed v_theQuestion_letters_length v_theQuestion_letters_bytes v_theCastle_facts v_theCastle_so v_theCastle_common v_theCastle_cases v_theCastle_firstTrueDay (r3) ho4) (cwV 0 hts gX9_both_X9_hasSlip rfl rfl rfl (by decide +kernel) ⟨(Nat.le_of_ble_eq_true rfl), (Nat.le_of_ble_eq_true rfl)⟩) ⟨(kb_pre hK hG hP (kb_D hD rfl) hS hA [0, 1, 2, 3, 4] rfl (by decide)).1, (va_recv hK hP (ci := 7) (q0 := 0) rfl rfl), (kb_pre hK hG hP (kb_D hD rfl) hS hA [0, 1, 2, 3, 4] rfl (by decide)).2⟩ rfl rfl hl.1 rfl (lv_room (Nat.le_of_ble_eq_true rfl)) dX9_both_13 ⟨Nat.zero_le _, Nat.zero_le _⟩) hP (kb_D hD rfl) hS hA [0, 1, 2, 3, 4] rfl [(true, 0), (true, 1), (true, 2), (true, 3), (true, 4), (false, 5), (false, 6), (false, 7)] (w2 := [oX9 a_th q_theText (.ref a_theQuestion) (.ref a_theCastle) (.ref a_now) q_theActs q_theTold q_foresight q_keptMoments q_isKept q_marchWorlds (.long v_theSeed), oX5 a_theQuestion (.ref a_theQuestion_letters) (.ref a_theQuestion_stack), oX3 a_theQuestion_letters (.ref a_theQuestion_letters_bytes) (.int v_theQuestion_letters_length), aI cI a_theQuestion_letters_bytes n_theQuestion_letters_bytes v_theQuestion_letters_bytes, oX1 a_theCastle (.int v_theCastle_facts) (.int v_theCastle_so) (.int v_theCastle_common) (.int v_theCastle_cases) (.int v_theCastle_firstTrueDay), oX4 a_now (.int v_now_date) (.int v_now_trueDay) (.int v_now_wasAsked) (.int v_now_clothState) (.int v_now_cracks) (.ref a_now_known), aI cI a_theQuestion_stack 16 v_theQuestion_stack, aI cI a_now_known 7 v_now_known]) rfl (by decide) (fun H locs hP hS => ?_)
      refine lv_if_eq (tgt := 22) hx hb dX9_both_16 (by decide) (fun c5 => ?_) (fun c5 => ?_)
      · replace hm := ite_t c5 hm
        refine lv_iload_n hx hb dX9_both_22 rfl (lv_at hl 1 rfl) ?_
        refine lv_if_ne (tgt := 33) hx hb dX9_both_23 (by decide) (fun c6 => ?_) (fun c6 => ?_)
        · replace hm := ite_f c6 hm
          refine lv_aload_n hx hb dX9_both_33 rfl (lv_at hl 0 rfl) ?_
          obtain ⟨r7, w8, ho9, hm⟩ := bd2_s hm
          refine kb_calli (Rv := r7) (va_runV (As := []) (rest := []) ⟨hx, hb, hml, hown, hts⟩ (c_X9_alikeByBoth l dC dI cI cJ cZ cQ t H.size a_th a_now a_now_known a_theQuestion a_theQuestion_letters a_theQuestion_letters_bytes a_theQuestion_stack n_theQuestion_letters_bytes q_theText (.ref a_theCastle) q_theActs q_theTold q_foresight q_keptMoments q_isKept q_marchWorlds v_theSeed v_now_date v_now_trueDay v_now_wasAsked v_now_clothState v_now_cracks v_now_known v_theQuestion_letters_length v_theQuestion_letters_bytes v_theQuestion_stack (r7, w8) ho9) (cwV 0 hts gX9_both_X9_alikeByBoth rfl rfl rfl (by decide +kernel) ⟨(Nat.le_of_ble_eq_true rfl), (Nat.le_of_ble_eq_true rfl)⟩) ⟨(kb_pre hK hG hP (kb_D hD rfl) hS hA [0, 5, 7, 1, 2, 3, 6] rfl (by decide)).1, (va_recv hK hP (ci := 7) (q0 := 0) rfl rfl), (kb_pre hK hG hP (kb_D hD rfl) hS hA [0, 5, 7, 1, 2, 3, 6] rfl (by decide)).2⟩ rfl rfl hl.1 rfl (lv_room (Nat.le_of_ble_eq_true rfl)) dX9_both_34 ⟨Nat.zero_le _, Nat.zero_le _⟩) hP (kb_D hD rfl) hS hA [0, 5, 7, 1, 2, 3, 6] rfl [(true, 0), (true, 3), (true, 4), (true, 5), (false, 4), (true, 1), (true, 6), (true, 2)] (w2 := [oX9 a_th q_theText (.ref a_theQuestion) (.ref a_theCastle) (.ref a_now) q_theActs q_theTold q_foresight q_keptMoments q_isKept q_marchWorlds (.long v_theSeed), oX5 a_theQuestion (.ref a_theQuestion_letters) (.ref a_theQuestion_stack), oX3 a_theQuestion_letters (.ref a_theQuestion_letters_bytes) (.int v_theQuestion_letters_length), aI cI a_theQuestion_letters_bytes n_theQuestion_letters_bytes v_theQuestion_letters_bytes, oX1 a_theCastle (.int v_theCastle_facts) (.int v_theCastle_so) (.int v_theCastle_common) (.int v_theCastle_cases) (.int v_theCastle_firstTrueDay), oX4 a_now (.int v_now_date) (.int v_now_trueDay) (.int v_now_wasAsked) (.int v_now_clothState) (.int v_now_cracks) (.ref a_now_known), aI cI a_theQuestion_stack 16 w8, aI cI a_now_known 7 v_now_known]) rfl (by decide) (fun H locs hP hS => ?_)
          obtain rfl := Option.some.inj hm
          subst hQ
          exact W.iret hx hb hr (fun t ht hW => ⟨⟨_, (), rfl, rfl, kb_h hP ht⟩, hS.F ht⟩) hS.2.2 dX9_both_37
        · replace hm := ite_t c6 hm
          refine lv_aload_n hx hb dX9_both_26 rfl (lv_at hl 0 rfl) ?_
          obtain ⟨r10, w11, ho12, hm⟩ := bd2_s hm
          refine kb_calli (Rv := r10) (va_runV (As := []) (rest := []) ⟨hx, hb, hml, hown, hts⟩ (c_X9_knownByBoth l dC dI cI cJ cZ cQ t H.size a_th a_now a_theCastle a_theQuestion a_theQuestion_letters a_theQuestion_letters_bytes a_theQuestion_stack a_now_known n_theQuestion_letters_bytes q_theText q_theActs q_theTold q_foresight q_keptMoments q_isKept q_marchWorlds v_theSeed v_now_date v_now_trueDay v_now_wasAsked v_now_clothState v_now_cracks v_theCastle_facts v_theCastle_so v_theCastle_common v_theCastle_cases v_theCastle_firstTrueDay v_theQuestion_letters_length v_theQuestion_letters_bytes v_theQuestion_stack v_now_known (r10, w11) ho12) (cwV 0 hts gX9_both_X9_knownByBoth rfl rfl rfl (by decide +kernel) ⟨(Nat.le_of_ble_eq_true rfl), (Nat.le_of_ble_eq_true rfl)⟩) ⟨(kb_pre hK hG hP (kb_D hD rfl) hS hA [0, 5, 4, 1, 2, 3, 6, 7] rfl (by decide)).1, (va_recv hK hP (ci := 7) (q0 := 0) rfl rfl), (kb_pre hK hG hP (kb_D hD rfl) hS hA [0, 5, 4, 1, 2, 3, 6, 7] rfl (by decide)).2⟩ rfl rfl hl.1 rfl (lv_room (Nat.le_of_ble_eq_true rfl)) dX9_both_27 ⟨Nat.zero_le _, Nat.zero_le _⟩) hP (kb_D hD rfl) hS hA [0, 5, 4, 1, 2, 3, 6, 7] rfl [(true, 0), (true, 3), (true, 4), (true, 5), (true, 2), (true, 1), (true, 6), (true, 7)] (w2 := [oX9 a_th q_theText (.ref a_theQuestion) (.ref a_theCastle) (.ref a_now) q_theActs q_theTold q_foresight q_keptMoments q_isKept q_marchWorlds (.long v_theSeed), oX5 a_theQuestion (.ref a_theQuestion_letters) (.ref a_theQuestion_stack), oX3 a_theQuestion_letters (.ref a_theQuestion_letters_bytes) (.int v_theQuestion_letters_length), aI cI a_theQuestion_letters_bytes n_theQuestion_letters_bytes v_theQuestion_letters_bytes, oX1 a_theCastle (.int v_theCastle_facts) (.int v_theCastle_so) (.int v_theCastle_common) (.int v_theCastle_cases) (.int v_theCastle_firstTrueDay), oX4 a_now (.int v_now_date) (.int v_now_trueDay) (.int v_now_wasAsked) (.int v_now_clothState) (.int v_now_cracks) (.ref a_now_known), aI cI a_theQuestion_stack 16 w11, aI cI a_now_known 7 v_now_known]) rfl (by decide) (fun H locs hP hS => ?_)
          refine lv_goto (tgt := 37) hx hb dX9_both_30 (by decide) ?_
          obtain rfl := Option.some.inj hm
          subst hQ
          exact W.iret hx hb hr (fun t ht hW => ⟨⟨_, (), rfl, rfl, kb_h hP ht⟩, hS.F ht⟩) hS.2.2 dX9_both_37
      · replace hm := ite_f c5 hm
        refine lv_bipush (v := (-3 : Int32)) hx hb dX9_both_19 (by decide) ?_
        obtain rfl := Option.some.inj hm
        subst hQ
        exact W.iret hx hb hr (fun t ht hW => ⟨⟨_, (), rfl, rfl, kb_h hP ht⟩, hS.F ht⟩) hS.2.2 dX9_both_21
    · replace hm := ite_f c2 hm
      refine lv_bipush (v := (-2 : Int32)) hx hb dX9_both_9 (by decide) ?_
      obtain rfl := Option.some.inj hm
      subst hQ
      exact W.iret hx hb hr (fun t ht hW => ⟨⟨_, (), rfl, rfl, kb_h hP ht⟩, hS.F ht⟩) hS.2.2 dX9_both_11
set_option maxHeartbeats 4000000 in
set_option maxRecDepth 100000 in
theorem c_X7_add (l : Launch) (dC : Nat → ClassId) (dI : Nat → Nat → Nat) (cI cJ cZ cQ : ClassId) (t sz : Nat) (a_th : Nat) (a_simples : Nat) (a_weekdays : Nat) (a_answers : Nat) (v_count : Int32) (v_simples : (Nat → Int32)) (v_weekdays : (Nat → Int32)) (v_answers : (Nat → Int32)) (p_1 : Int32) (p_2 : Int32) (p_3 : Int32) (o : Int32 × Int32 × (Nat → Int32) × (Nat → Int32) × (Nat → Int32)) (hm : m_X7_add p_1 p_2 p_3 v_count v_simples v_weekdays v_answers = some o) : Met l yX7_add wsX7_add { frames := 0, cells := 0, slots := 0, locals := 0 } (va_Pc [.ref a_th, .int p_1, .int p_2, .int p_3] (cP (dC, dI) (kT cI cJ cZ cQ) t sz [oX7 a_th (.ref a_simples) (.ref a_weekdays) (.ref a_answers) (.int v_count), aI cI a_simples 6 v_simples, aI cI a_weekdays 6 v_weekdays, aI cI a_answers 6 v_answers])) (cQi (dC, dI) (va_A [oX7 a_th (.ref a_simples) (.ref a_weekdays) (.ref a_answers) (.int v_count), aI cI a_simples 6 v_simples, aI cI a_weekdays 6 v_weekdays, aI cI a_answers 6 v_answers] sz) o.1 [oX7 a_th (.ref a_simples) (.ref a_weekdays) (.ref a_answers) (.int (o.2.1)), aI cI a_simples 6 (o.2.2.1), aI cI a_weekdays 6 (o.2.2.2.1), aI cI a_answers 6 (o.2.2.2.2)]) 0 0 (va_A [oX7 a_th (.ref a_simples) (.ref a_weekdays) (.ref a_answers) (.int v_count), aI cI a_simples 6 v_simples, aI cI a_weekdays 6 v_weekdays, aI cI a_answers 6 v_answers] sz) := by
  refine Met.ofW (cc := cX7_add) (maxL := 4) (ret := (some .int)) (by decide) rfl ?_
  intro p e s m args below meth c s₁ B hml hv
  obtain ⟨rfl, hsz, hP, hK, hD0, hG⟩ := hv
  have hx := B.exec
  have hb := B.bytes
  have hr := B.returns
  have hts := atoms_spec (ws := wsX7_add) B.pre
  have hown : s.vm.findClass RX7 = some m.cls := findClass_of_methodNamed B.named
  have hlocks := B.notSynchronized
  subst hsz
  have hD := hD0.self (sz := s.heap.size)
  generalize hAe : va_A [oX7 a_th (.ref a_simples) (.ref a_weekdays) (.ref a_answers) (.int v_count), aI cI a_simples 6 v_simples, aI cI a_weekdays 6 v_weekdays, aI cI a_answers 6 v_answers] s.heap.size = A at hD hG ⊢
  have hA : ∀ q : Nat, s.heap.size ≤ q → A q := fun q h => by rw [← hAe]; exact Or.inr h
  have hS : va_S A s.heap s.heap [] := va_S.rf
  have hl := lv_entry ([.ref a_th, .int p_1, .int p_2, .int p_3]) (n := 4) (Nat.le_of_ble_eq_true rfl)
  rw [lg_entry_eq]
  generalize (lg_sl ([.ref a_th, .int p_1, .int p_2, .int p_3]) ++ List.replicate (4 - (lg_sl ([.ref a_th, .int p_1, .int p_2, .int p_3])).length) Slot.unset).toArray = ls at hl ⊢
  have hl : lv_has ls 4 [(0, .ref a_th), (1, .int p_1), (2, .int p_2), (3, .int p_3)] := hl
  have iX7 : ∀ w ∈ wsX70, w ∈ wsX7_add := fun _ h => List.mem_cons_of_mem _ (List.mem_append_right _ h)
  have f21 := hts (.fieldLink RX7 21 "TrueOnceWeek$Told" "count" "I") (by decide +kernel)
  have f9 := hts (.fieldLink RX7 9 "TrueOnceWeek$Told" "simples" "[I") (by decide +kernel)
  have f15 := hts (.fieldLink RX7 15 "TrueOnceWeek$Told" "weekdays" "[I") (by decide +kernel)
  have f18 := hts (.fieldLink RX7 18 "TrueOnceWeek$Told" "answers" "[I") (by decide +kernel)
  refine kb_gen (fun Q hQ => ?_)
  unfold m_X7_add at hm
  refine lv_aload_n hx hb dX7_add_0 rfl (lv_at hl 0 rfl) ?_
  refine va_get (D := (dC, dI)) (ci := 6) (v := .int v_count) (C := RX7) (T := TX7) (N := 4) hx hb hts iX7 hown hK hP 0 rfl rfl 3 (by decide) f21 (fun _ h9 => h9) rfl dX7_add_1 ?_
  refine lv_bipush (v := (6 : Int32)) hx hb dX7_add_4 (by decide) ?_
  refine lv_icmp_lt (tgt := 12) hx hb dX7_add_6 (by decide) (fun c1 => ?_) (fun c1 => ?_)
  · replace hm := ite_t c1 hm
    refine lv_aload_n hx hb dX7_add_12 rfl (lv_at hl 0 rfl) ?_
    refine va_get (D := (dC, dI)) (ci := 6) (v := .ref a_simples) (C := RX7) (T := TX7) (N := 4) hx hb hts iX7 hown hK hP 0 rfl rfl 0 (by decide) f9 (fun _ h9 => h9) rfl dX7_add_13 ?_
    refine lv_aload_n hx hb dX7_add_16 rfl (lv_at hl 0 rfl) ?_
    refine va_get (D := (dC, dI)) (ci := 6) (v := .int v_count) (C := RX7) (T := TX7) (N := 4) hx hb hts iX7 hown hK hP 0 rfl rfl 3 (by decide) f21 (fun _ h9 => h9) rfl dX7_add_17 ?_
    refine lv_iload_n hx hb dX7_add_20 rfl (lv_at hl 1 rfl) ?_
    obtain ⟨h2, hm⟩ := gd_s hm
    refine va_iast hx hb hK hP (kb_D hD rfl) hS 1 0 rfl rfl (inB_s h2) dX7_add_21 (fun H locs hP _ hS => ?_)
    have hP : va_P (dC, dI) vwCl [oX7 a_th (.ref a_simples) (.ref a_weekdays) (.ref a_answers) (.int v_count), aI cI a_simples 6 (upd v_simples (Int32.toNatClampNeg v_count) p_1), aI cI a_weekdays 6 v_weekdays, aI cI a_answers 6 v_answers] H := hP
    refine lv_aload_n hx hb dX7_add_22 rfl (lv_at hl 0 rfl) ?_
    refine va_get (D := (dC, dI)) (ci := 6) (v := .ref a_weekdays) (C := RX7) (T := TX7) (N := 4) hx hb hts iX7 hown hK hP 0 rfl rfl 1 (by decide) f15 (fun _ h9 => h9) rfl dX7_add_23 ?_
    refine lv_aload_n hx hb dX7_add_26 rfl (lv_at hl 0 rfl) ?_
    refine va_get (D := (dC, dI)) (ci := 6) (v := .int v_count) (C := RX7) (T := TX7) (N := 4) hx hb hts iX7 hown hK hP 0 rfl rfl 3 (by decide) f21 (fun _ h9 => h9) rfl dX7_add_27 ?_
    refine lv_iload_n hx hb dX7_add_30 rfl (lv_at hl 2 rfl) ?_
    obtain ⟨h3, hm⟩ := gd_s hm
    refine va_iast hx hb hK hP (kb_D hD rfl) hS 2 0 rfl rfl (inB_s h3) dX7_add_31 (fun H locs hP _ hS => ?_)
    have hP : va_P (dC, dI) vwCl [oX7 a_th (.ref a_simples) (.ref a_weekdays) (.ref a_answers) (.int v_count), aI cI a_simples 6 (upd v_simples (Int32.toNatClampNeg v_count) p_1), aI cI a_weekdays 6 (upd v_weekdays (Int32.toNatClampNeg v_count) p_2), aI cI a_answers 6 v_answers] H := hP
    refine lv_aload_n hx hb dX7_add_32 rfl (lv_at hl 0 rfl) ?_
    refine va_get (D := (dC, dI)) (ci := 6) (v := .ref a_answers) (C := RX7) (T := TX7) (N := 4) hx hb hts iX7 hown hK hP 0 rfl rfl 2 (by decide) f18 (fun _ h9 => h9) rfl dX7_add_33 ?_
    refine lv_aload_n hx hb dX7_add_36 rfl (lv_at hl 0 rfl) ?_
    refine va_get (D := (dC, dI)) (ci := 6) (v := .int v_count) (C := RX7) (T := TX7) (N := 4) hx hb hts iX7 hown hK hP 0 rfl rfl 3 (by decide) f21 (fun _ h9 => h9) rfl dX7_add_37 ?_
    refine lv_iload_n hx hb dX7_add_40 rfl (lv_at hl 3 rfl) ?_
    obtain ⟨h4, hm⟩ := gd_s hm
    refine va_iast hx hb hK hP (kb_D hD rfl) hS 3 0 rfl rfl (inB_s h4) dX7_add_41 (fun H locs hP _ hS => ?_)
    have hP : va_P (dC, dI) vwCl [oX7 a_th (.ref a_simples) (.ref a_weekdays) (.ref a_answers) (.int v_count), aI cI a_simples 6 (upd v_simples (Int32.toNatClampNeg v_count) p_1), aI cI a_weekdays 6 (upd v_weekdays (Int32.toNatClampNeg v_count) p_2), aI cI a_answers 6 (upd v_answers (Int32.toNatClampNeg v_count) p_3)] H := hP
    refine lv_aload_n hx hb dX7_add_42 rfl (lv_at hl 0 rfl) ?_
    refine lv_dup hx hb dX7_add_43 rfl ?_
    refine va_get (D := (dC, dI)) (ci := 6) (v := .int v_count) (C := RX7) (T := TX7) (N := 4) hx hb hts iX7 hown hK hP 0 rfl rfl 3 (by decide) f21 (fun _ h9 => h9) rfl dX7_add_44 ?_
    refine lv_iconst (v := (1 : Int32)) hx hb dX7_add_47 (by decide) ?_
    refine lv_iadd hx hb dX7_add_48 ?_
    refine lv_topi (fun x5 ex5 => ?_)
    replace hm := nm_t ex5 hm
    refine va_put (D := (dC, dI)) (ci := 6) (v := .int x5) (ty := .int) (C := RX7) (T := TX7) (N := 4) hx hb hts iX7 tyX7 tyX7_ok nmX7 hown hK hP (kb_D hD rfl) hS 0 rfl rfl 3 (by decide) f21 (fun _ h9 => h9) rfl (by decide +kernel) rfl rfl (Nat.le_of_ble_eq_true rfl) dX7_add_49 (fun H locs hP _ hS => ?_)
    have hP : va_P (dC, dI) vwCl [oX7 a_th (.ref a_simples) (.ref a_weekdays) (.ref a_answers) (.int x5), aI cI a_simples 6 (upd v_simples (Int32.toNatClampNeg v_count) p_1), aI cI a_weekdays 6 (upd v_weekdays (Int32.toNatClampNeg v_count) p_2), aI cI a_answers 6 (upd v_answers (Int32.toNatClampNeg v_count) p_3)] H := hP
    refine lv_aload_n hx hb dX7_add_52 rfl (lv_at hl 0 rfl) ?_
    refine va_get (D := (dC, dI)) (ci := 6) (v := .int x5) (C := RX7) (T := TX7) (N := 4) hx hb hts iX7 hown hK hP 0 rfl rfl 3 (by decide) f21 (fun _ h9 => h9) rfl dX7_add_53 ?_
    obtain rfl := Option.some.inj hm
    subst hQ
    exact W.iret hx hb hr (fun t ht hW => ⟨⟨_, (), rfl, rfl, kb_h hP ht⟩, hS.F ht⟩) hS.2.2 dX7_add_56
  · replace hm := ite_f c1 hm
    refine lv_bipush (v := (-4 : Int32)) hx hb dX7_add_9 (by decide) ?_
    obtain rfl := Option.some.inj hm
    subst hQ
    exact W.iret hx hb hr (fun t ht hW => ⟨⟨_, (), rfl, rfl, kb_h hP ht⟩, hS.F ht⟩) hS.2.2 dX7_add_11
set_option maxHeartbeats 4000000 in
set_option maxRecDepth 100000 in
theorem c_X9_tell (l : Launch) (dC : Nat → ClassId) (dI : Nat → Nat → Nat) (cI cJ cZ cQ : ClassId) (t sz : Nat) (a_th : Nat) (a_theCastle : Nat) (a_theTold : Nat) (a_theTold_simples : Nat) (a_theTold_weekdays : Nat) (a_theTold_answers : Nat) (q_theText : Value) (q_theQuestion : Value) (q_now : Value) (q_theActs : Value) (q_foresight : Value) (q_keptMoments : Value) (q_isKept : Value) (q_marchWorlds : Value) (v_theSeed : Int64) (v_theCastle_facts : Int32) (v_theCastle_so : Int32) (v_theCastle_common : Int32) (v_theCastle_cases : Int32) (v_theCastle_firstTrueDay : Int32) (v_theTold_count : Int32) (v_theTold_simples : (Nat → Int32)) (v_theTold_weekdays : (Nat → Int32)) (v_theTold_answers : (Nat → Int32)) (p_1 : Int32) (p_2 : Int32) (p_3 : Int32) (o : Int32 × Int32 × (Nat → Int32) × (Nat → Int32) × (Nat → Int32)) (hm : m_X9_tell p_1 p_2 p_3 v_theCastle_facts v_theTold_count v_theTold_simples v_theTold_weekdays v_theTold_answers = some o) : Met l yX9_tell wsX9_tell { frames := 2, cells := 0, slots := 0, locals := 43 } (va_Pc [.ref a_th, .int p_1, .int p_2, .int p_3] (cP (dC, dI) (kT cI cJ cZ cQ) t sz [oX9 a_th q_theText q_theQuestion (.ref a_theCastle) q_now q_theActs (.ref a_theTold) q_foresight q_keptMoments q_isKept q_marchWorlds (.long v_theSeed), oX1 a_theCastle (.int v_theCastle_facts) (.int v_theCastle_so) (.int v_theCastle_common) (.int v_theCastle_cases) (.int v_theCastle_firstTrueDay), oX7 a_theTold (.ref a_theTold_simples) (.ref a_theTold_weekdays) (.ref a_theTold_answers) (.int v_theTold_count), aI cI a_theTold_simples 6 v_theTold_simples, aI cI a_theTold_weekdays 6 v_theTold_weekdays, aI cI a_theTold_answers 6 v_theTold_answers])) (cQi (dC, dI) (va_A [oX9 a_th q_theText q_theQuestion (.ref a_theCastle) q_now q_theActs (.ref a_theTold) q_foresight q_keptMoments q_isKept q_marchWorlds (.long v_theSeed), oX1 a_theCastle (.int v_theCastle_facts) (.int v_theCastle_so) (.int v_theCastle_common) (.int v_theCastle_cases) (.int v_theCastle_firstTrueDay), oX7 a_theTold (.ref a_theTold_simples) (.ref a_theTold_weekdays) (.ref a_theTold_answers) (.int v_theTold_count), aI cI a_theTold_simples 6 v_theTold_simples, aI cI a_theTold_weekdays 6 v_theTold_weekdays, aI cI a_theTold_answers 6 v_theTold_answers] sz) o.1 [oX9 a_th q_theText q_theQuestion (.ref a_theCastle) q_now q_theActs (.ref a_theTold) q_foresight q_keptMoments q_isKept q_marchWorlds (.long v_theSeed), oX1 a_theCastle (.int v_theCastle_facts) (.int v_theCastle_so) (.int v_theCastle_common) (.int v_theCastle_cases) (.int v_theCastle_firstTrueDay), oX7 a_theTold (.ref a_theTold_simples) (.ref a_theTold_weekdays) (.ref a_theTold_answers) (.int (o.2.1)), aI cI a_theTold_simples 6 (o.2.2.1), aI cI a_theTold_weekdays 6 (o.2.2.2.1), aI cI a_theTold_answers 6 (o.2.2.2.2)]) 0 0 (va_A [oX9 a_th q_theText q_theQuestion (.ref a_theCastle) q_now q_theActs (.ref a_theTold) q_foresight q_keptMoments q_isKept q_marchWorlds (.long v_theSeed), oX1 a_theCastle (.int v_theCastle_facts) (.int v_theCastle_so) (.int v_theCastle_common) (.int v_theCastle_cases) (.int v_theCastle_firstTrueDay), oX7 a_theTold (.ref a_theTold_simples) (.ref a_theTold_weekdays) (.ref a_theTold_answers) (.int v_theTold_count), aI cI a_theTold_simples 6 v_theTold_simples, aI cI a_theTold_weekdays 6 v_theTold_weekdays, aI cI a_theTold_answers 6 v_theTold_answers] sz) := by
  refine Met.ofW (cc := cX9_tell) (maxL := 4) (ret := (some .int)) (by decide) rfl ?_
  intro p e s m args below meth c s₁ B hml hv
  obtain ⟨rfl, hsz, hP, hK, hD0, hG⟩ := hv
  have hx := B.exec
  have hb := B.bytes
  have hr := B.returns
  have hts := atoms_spec (ws := wsX9_tell) B.pre
  have hown : s.vm.findClass RX9 = some m.cls := findClass_of_methodNamed B.named
  have hlocks := B.notSynchronized
  subst hsz
  have hD := hD0.self (sz := s.heap.size)
  generalize hAe : va_A [oX9 a_th q_theText q_theQuestion (.ref a_theCastle) q_now q_theActs (.ref a_theTold) q_foresight q_keptMoments q_isKept q_marchWorlds (.long v_theSeed), oX1 a_theCastle (.int v_theCastle_facts) (.int v_theCastle_so) (.int v_theCastle_common) (.int v_theCastle_cases) (.int v_theCastle_firstTrueDay), oX7 a_theTold (.ref a_theTold_simples) (.ref a_theTold_weekdays) (.ref a_theTold_answers) (.int v_theTold_count), aI cI a_theTold_simples 6 v_theTold_simples, aI cI a_theTold_weekdays 6 v_theTold_weekdays, aI cI a_theTold_answers 6 v_theTold_answers] s.heap.size = A at hD hG ⊢
  have hA : ∀ q : Nat, s.heap.size ≤ q → A q := fun q h => by rw [← hAe]; exact Or.inr h
  have hS : va_S A s.heap s.heap [] := va_S.rf
  have hl := lv_entry ([.ref a_th, .int p_1, .int p_2, .int p_3]) (n := 4) (Nat.le_of_ble_eq_true rfl)
  rw [lg_entry_eq]
  generalize (lg_sl ([.ref a_th, .int p_1, .int p_2, .int p_3]) ++ List.replicate (4 - (lg_sl ([.ref a_th, .int p_1, .int p_2, .int p_3])).length) Slot.unset).toArray = ls at hl ⊢
  have hl : lv_has ls 4 [(0, .ref a_th), (1, .int p_1), (2, .int p_2), (3, .int p_3)] := hl
  have iX9 : ∀ w ∈ wsX90, w ∈ wsX9_tell := fun _ h => List.mem_cons_of_mem _ (List.mem_append_left _ (List.mem_append_left _ (List.mem_append_right _ h)))
  have iX1 : ∀ w ∈ wsX10, w ∈ wsX9_tell := fun _ h => List.mem_cons_of_mem _ (List.mem_append_left _ (List.mem_append_right _ h))
  have iX7 : ∀ w ∈ wsX70, w ∈ wsX9_tell := fun _ h => List.mem_cons_of_mem _ (List.mem_append_right _ h)
  have f28 := hts (.fieldLink RX9 28 "TrueOnceWeek" "theCastle" "LTrueOnceWeek$Castle;") (by decide +kernel)
  have f49 := hts (.fieldLink RX9 49 "TrueOnceWeek" "theTold" "LTrueOnceWeek$Told;") (by decide +kernel)
  refine kb_gen (fun Q hQ => ?_)
  unfold m_X9_tell at hm
  refine lv_aload_n hx hb dX9_tell_0 rfl (lv_at hl 0 rfl) ?_
  refine va_get (D := (dC, dI)) (ci := 7) (v := .ref a_theCastle) (C := RX9) (T := TX9) (N := 11) hx hb hts iX9 hown hK hP 0 rfl rfl 2 (by decide) f28 (fun _ h9 => h9) rfl dX9_tell_1 ?_
  refine lv_iload_n hx hb dX9_tell_4 rfl (lv_at hl 1 rfl) ?_
  obtain ⟨r1, ho2, hm⟩ := bd1_s hm
  refine kb_calli (Rv := r1) (va_runV (As := [.int p_1]) (rest := []) ⟨hx, hb, hml, hown, hts⟩ (c_X1_hasSimple l dC dI cI cJ cZ cQ t s.heap.size a_theCastle v_theCastle_facts v_theCastle_so v_theCastle_common v_theCastle_cases v_theCastle_firstTrueDay p_1 (r1) ho2) (cwV 1 hts gX9_tell_X1_hasSimple rfl rfl rfl (by decide +kernel) ⟨(Nat.le_of_ble_eq_true rfl), (Nat.le_of_ble_eq_true rfl)⟩) ⟨(kb_pre hK hG hP (kb_D hD rfl) hS hA [1] rfl (by decide)).1, (va_recv hK hP (ci := 1) (q0 := 1) rfl rfl), (kb_pre hK hG hP (kb_D hD rfl) hS hA [1] rfl (by decide)).2⟩ rfl rfl hl.1 rfl (lv_room (Nat.le_of_ble_eq_true rfl)) dX9_tell_5 ⟨Nat.zero_le _, Nat.zero_le _⟩) hP (kb_D hD rfl) hS hA [1] rfl [(false, 0), (true, 0), (false, 2), (false, 3), (false, 4), (false, 5)] (w2 := [oX9 a_th q_theText q_theQuestion (.ref a_theCastle) q_now q_theActs (.ref a_theTold) q_foresight q_keptMoments q_isKept q_marchWorlds (.long v_theSeed), oX1 a_theCastle (.int v_theCastle_facts) (.int v_theCastle_so) (.int v_theCastle_common) (.int v_theCastle_cases) (.int v_theCastle_firstTrueDay), oX7 a_theTold (.ref a_theTold_simples) (.ref a_theTold_weekdays) (.ref a_theTold_answers) (.int v_theTold_count), aI cI a_theTold_simples 6 v_theTold_simples, aI cI a_theTold_weekdays 6 v_theTold_weekdays, aI cI a_theTold_answers 6 v_theTold_answers]) rfl (by decide) (fun H locs hP hS => ?_)
  refine lv_if_eq (tgt := 18) hx hb dX9_tell_8 (by decide) (fun c3 => ?_) (fun c3 => ?_)
  · replace hm := ite_t c3 hm
    refine lv_bipush (v := (-2 : Int32)) hx hb dX9_tell_18 (by decide) ?_
    obtain rfl := Option.some.inj hm
    subst hQ
    exact W.iret hx hb hr (fun t ht hW => ⟨⟨_, (), rfl, rfl, kb_h hP ht⟩, hS.F ht⟩) hS.2.2 dX9_tell_20
  · replace hm := ite_f c3 hm
    refine lv_iload_n hx hb dX9_tell_11 rfl (lv_at hl 2 rfl) ?_
    obtain ⟨r4, ho5, hm⟩ := bd1_s hm
    refine kb_calli (Rv := r4) (va_runS (As := [.int p_2]) (rest := []) ⟨hx, hb, hml, hown, hts⟩ (c_X9_isWeekday l dC dI cI cJ cZ cQ t H.size p_2 (r4) ho5) (va_cwS 1 hts gX9_tell_X9_isWeekday rfl rfl rfl (by decide +kernel) ⟨(Nat.le_of_ble_eq_true rfl), (Nat.le_of_ble_eq_true rfl)⟩) (kb_pre hK hG hP (kb_D hD rfl) hS hA [] rfl (by decide)) rfl rfl hl.1 rfl (lv_room (Nat.le_of_ble_eq_true rfl)) dX9_tell_12 ⟨Nat.zero_le _, Nat.zero_le _⟩) hP (kb_D hD rfl) hS hA [] rfl [(false, 0), (false, 1), (false, 2), (false, 3), (false, 4), (false, 5)] (w2 := [oX9 a_th q_theText q_theQuestion (.ref a_theCastle) q_now q_theActs (.ref a_theTold) q_foresight q_keptMoments q_isKept q_marchWorlds (.long v_theSeed), oX1 a_theCastle (.int v_theCastle_facts) (.int v_theCastle_so) (.int v_theCastle_common) (.int v_theCastle_cases) (.int v_theCastle_firstTrueDay), oX7 a_theTold (.ref a_theTold_simples) (.ref a_theTold_weekdays) (.ref a_theTold_answers) (.int v_theTold_count), aI cI a_theTold_simples 6 v_theTold_simples, aI cI a_theTold_weekdays 6 v_theTold_weekdays, aI cI a_theTold_answers 6 v_theTold_answers]) rfl (by decide) (fun H locs hP hS => ?_)
    refine lv_if_ne (tgt := 21) hx hb dX9_tell_15 (by decide) (fun c6 => ?_) (fun c6 => ?_)
    · replace hm := ite_f c6 hm
      refine lv_aload_n hx hb dX9_tell_21 rfl (lv_at hl 0 rfl) ?_
      refine va_get (D := (dC, dI)) (ci := 7) (v := .ref a_theTold) (C := RX9) (T := TX9) (N := 11) hx hb hts iX9 hown hK hP 0 rfl rfl 5 (by decide) f49 (fun _ h9 => h9) rfl dX9_tell_22 ?_
      refine lv_iload_n hx hb dX9_tell_25 rfl (lv_at hl 1 rfl) ?_
      refine lv_iload_n hx hb dX9_tell_26 rfl (lv_at hl 2 rfl) ?_
      refine lv_iload_n hx hb dX9_tell_27 rfl (lv_at hl 3 rfl) ?_
      obtain ⟨k36, ek36, hm⟩ := nm_s hm
      have J36 : ∀ (x7 : Int32) (H : Heap) (locs : List Loc) (ls : Array Slot), k36 x7 = some o → va_P (dC, dI) vwCl [oX9 a_th q_theText q_theQuestion (.ref a_theCastle) q_now q_theActs (.ref a_theTold) q_foresight q_keptMoments q_isKept q_marchWorlds (.long v_theSeed), oX1 a_theCastle (.int v_theCastle_facts) (.int v_theCastle_so) (.int v_theCastle_common) (.int v_theCastle_cases) (.int v_theCastle_firstTrueDay), oX7 a_theTold (.ref a_theTold_simples) (.ref a_theTold_weekdays) (.ref a_theTold_answers) (.int v_theTold_count), aI cI a_theTold_simples 6 v_theTold_simples, aI cI a_theTold_weekdays 6 v_theTold_weekdays, aI cI a_theTold_answers 6 v_theTold_answers] H → va_S A s.heap H locs → lv_has ls 4 [] → W p l e (headSpec wsX9_tell { frames := 2, cells := 0, slots := 0, locals := 43 }).room s m [.ref a_th, .int p_1, .int p_2, .int p_3].toArray below meth c H locs 0 0 Q (F0 m 36 ls [.int x7, .int p_2, .int p_1, .ref a_theTold]) := by
        intro x7 H locs ls hm hP hS hl
        rw [ek36] at hm
        obtain ⟨r8, w9, w10, w11, w12, ho13, hm⟩ := bd5_s hm
        refine kb_calli (Rv := r8) (va_runV (As := [.int p_1, .int p_2, .int x7]) (rest := []) ⟨hx, hb, hml, hown, hts⟩ (c_X7_add l dC dI cI cJ cZ cQ t H.size a_theTold a_theTold_simples a_theTold_weekdays a_theTold_answers v_theTold_count v_theTold_simples v_theTold_weekdays v_theTold_answers p_1 p_2 x7 (r8, w9, w10, w11, w12) ho13) (cwV 3 hts gX9_tell_X7_add rfl rfl rfl (by decide +kernel) ⟨(Nat.le_of_ble_eq_true rfl), (Nat.le_of_ble_eq_true rfl)⟩) ⟨(kb_pre hK hG hP (kb_D hD rfl) hS hA [2, 3, 4, 5] rfl (by decide)).1, (va_recv hK hP (ci := 6) (q0 := 2) rfl rfl), (kb_pre hK hG hP (kb_D hD rfl) hS hA [2, 3, 4, 5] rfl (by decide)).2⟩ rfl rfl hl.1 rfl (lv_room (Nat.le_of_ble_eq_true rfl)) dX9_tell_36 ⟨Nat.zero_le _, Nat.zero_le _⟩) hP (kb_D hD rfl) hS hA [2, 3, 4, 5] rfl [(false, 0), (false, 1), (true, 0), (true, 1), (true, 2), (true, 3)] (w2 := [oX9 a_th q_theText q_theQuestion (.ref a_theCastle) q_now q_theActs (.ref a_theTold) q_foresight q_keptMoments q_isKept q_marchWorlds (.long v_theSeed), oX1 a_theCastle (.int v_theCastle_facts) (.int v_theCastle_so) (.int v_theCastle_common) (.int v_theCastle_cases) (.int v_theCastle_firstTrueDay), oX7 a_theTold (.ref a_theTold_simples) (.ref a_theTold_weekdays) (.ref a_theTold_answers) (.int w9), aI cI a_theTold_simples 6 w10, aI cI a_theTold_weekdays 6 w11, aI cI a_theTold_answers 6 w12]) rfl (by decide) (fun H locs hP hS => ?_)
        obtain rfl := Option.some.inj hm
        subst hQ
        exact W.iret hx hb hr (fun t ht hW => ⟨⟨_, (), rfl, rfl, kb_h hP ht⟩, hS.F ht⟩) hS.2.2 dX9_tell_39
      refine lv_if_eq (tgt := 35) hx hb dX9_tell_28 (by decide) (fun c14 => ?_) (fun c14 => ?_)
      · replace hm := ite_t c14 hm
        refine lv_iconst (v := (0 : Int32)) hx hb dX9_tell_35 (by decide) ?_
        exact J36 (0 : Int32) _ _ _ hm hP hS (lv_sub hl [] rfl)
      · replace hm := ite_f c14 hm
        refine lv_iconst (v := (1 : Int32)) hx hb dX9_tell_31 (by decide) ?_
        refine lv_goto (tgt := 36) hx hb dX9_tell_32 (by decide) ?_
        exact J36 (1 : Int32) _ _ _ hm hP hS (lv_sub hl [] rfl)
    · replace hm := ite_t c6 hm
      refine lv_bipush (v := (-2 : Int32)) hx hb dX9_tell_18 (by decide) ?_
      obtain rfl := Option.some.inj hm
      subst hQ
      exact W.iret hx hb hr (fun t ht hW => ⟨⟨_, (), rfl, rfl, kb_h hP ht⟩, hS.F ht⟩) hS.2.2 dX9_tell_20
set_option maxHeartbeats 4000000 in
set_option maxRecDepth 100000 in
theorem c_X7_forget (l : Launch) (dC : Nat → ClassId) (dI : Nat → Nat → Nat) (cI cJ cZ cQ : ClassId) (t sz : Nat) (a_th : Nat) (q_simples : Value) (q_weekdays : Value) (q_answers : Value) (v_count : Int32) (o : Int32 × Int32) (hm : m_X7_forget v_count = some o) : Met l yX7_forget wsX7_forget { frames := 0, cells := 0, slots := 0, locals := 0 } (va_Pc [.ref a_th] (cP (dC, dI) (kT cI cJ cZ cQ) t sz [oX7 a_th q_simples q_weekdays q_answers (.int v_count)])) (cQi (dC, dI) (va_A [oX7 a_th q_simples q_weekdays q_answers (.int v_count)] sz) o.1 [oX7 a_th q_simples q_weekdays q_answers (.int (o.2))]) 0 0 (va_A [oX7 a_th q_simples q_weekdays q_answers (.int v_count)] sz) := by
  refine Met.ofW (cc := cX7_forget) (maxL := 2) (ret := (some .int)) (by decide) rfl ?_
  intro p e s m args below meth c s₁ B hml hv
  obtain ⟨rfl, hsz, hP, hK, hD0, hG⟩ := hv
  have hx := B.exec
  have hb := B.bytes
  have hr := B.returns
  have hts := atoms_spec (ws := wsX7_forget) B.pre
  have hown : s.vm.findClass RX7 = some m.cls := findClass_of_methodNamed B.named
  have hlocks := B.notSynchronized
  subst hsz
  have hD := hD0.self (sz := s.heap.size)
  generalize hAe : va_A [oX7 a_th q_simples q_weekdays q_answers (.int v_count)] s.heap.size = A at hD hG ⊢
  have hA : ∀ q : Nat, s.heap.size ≤ q → A q := fun q h => by rw [← hAe]; exact Or.inr h
  have hS : va_S A s.heap s.heap [] := va_S.rf
  have hl := lv_entry ([.ref a_th]) (n := 2) (Nat.le_of_ble_eq_true rfl)
  rw [lg_entry_eq]
  generalize (lg_sl ([.ref a_th]) ++ List.replicate (2 - (lg_sl ([.ref a_th])).length) Slot.unset).toArray = ls at hl ⊢
  have hl : lv_has ls 2 [(0, .ref a_th)] := hl
  have iX7 : ∀ w ∈ wsX70, w ∈ wsX7_forget := fun _ h => List.mem_cons_of_mem _ (List.mem_append_right _ h)
  have f21 := hts (.fieldLink RX7 21 "TrueOnceWeek$Told" "count" "I") (by decide +kernel)
  refine kb_gen (fun Q hQ => ?_)
  unfold m_X7_forget at hm
  refine lv_aload_n hx hb dX7_forget_0 rfl (lv_at hl 0 rfl) ?_
  refine va_get (D := (dC, dI)) (ci := 6) (v := .int v_count) (C := RX7) (T := TX7) (N := 4) hx hb hts iX7 hown hK hP 0 rfl rfl 3 (by decide) f21 (fun _ h9 => h9) rfl dX7_forget_1 ?_
  refine lv_istore_n (lv' := [(1, .int v_count), (0, .ref a_th)]) hx hb dX7_forget_4 rfl hl (by decide) rfl (fun ls hl => ?_)
  refine lv_aload_n hx hb dX7_forget_5 rfl (lv_at hl 1 rfl) ?_
  refine lv_iconst (v := (0 : Int32)) hx hb dX7_forget_6 (by decide) ?_
  refine va_put (D := (dC, dI)) (ci := 6) (v := .int (0 : Int32)) (ty := .int) (C := RX7) (T := TX7) (N := 4) hx hb hts iX7 tyX7 tyX7_ok nmX7 hown hK hP (kb_D hD rfl) hS 0 rfl rfl 3 (by decide) f21 (fun _ h9 => h9) rfl (by decide +kernel) rfl rfl (Nat.le_of_ble_eq_true rfl) dX7_forget_7 (fun H locs hP _ hS => ?_)
  have hP : va_P (dC, dI) vwCl [oX7 a_th q_simples q_weekdays q_answers (.int (0 : Int32))] H := hP
  refine lv_iload_n hx hb dX7_forget_10 rfl (lv_at hl 0 rfl) ?_
  obtain rfl := Option.some.inj hm
  subst hQ
  exact W.iret hx hb hr (fun t ht hW => ⟨⟨_, (), rfl, rfl, kb_h hP ht⟩, hS.F ht⟩) hS.2.2 dX7_forget_11
set_option maxHeartbeats 4000000 in
set_option maxRecDepth 100000 in
theorem c_X9_untell (l : Launch) (dC : Nat → ClassId) (dI : Nat → Nat → Nat) (cI cJ cZ cQ : ClassId) (t sz : Nat) (a_th : Nat) (a_theTold : Nat) (q_theText : Value) (q_theQuestion : Value) (q_theCastle : Value) (q_now : Value) (q_theActs : Value) (q_foresight : Value) (q_keptMoments : Value) (q_isKept : Value) (q_marchWorlds : Value) (q_theTold_simples : Value) (q_theTold_weekdays : Value) (q_theTold_answers : Value) (v_theSeed : Int64) (v_theTold_count : Int32) (o : Int32 × Int32) (hm : m_X9_untell v_theTold_count = some o) : Met l yX9_untell wsX9_untell { frames := 1, cells := 0, slots := 0, locals := 21 } (va_Pc [.ref a_th] (cP (dC, dI) (kT cI cJ cZ cQ) t sz [oX9 a_th q_theText q_theQuestion q_theCastle q_now q_theActs (.ref a_theTold) q_foresight q_keptMoments q_isKept q_marchWorlds (.long v_theSeed), oX7 a_theTold q_theTold_simples q_theTold_weekdays q_theTold_answers (.int v_theTold_count)])) (cQi (dC, dI) (va_A [oX9 a_th q_theText q_theQuestion q_theCastle q_now q_theActs (.ref a_theTold) q_foresight q_keptMoments q_isKept q_marchWorlds (.long v_theSeed), oX7 a_theTold q_theTold_simples q_theTold_weekdays q_theTold_answers (.int v_theTold_count)] sz) o.1 [oX9 a_th q_theText q_theQuestion q_theCastle q_now q_theActs (.ref a_theTold) q_foresight q_keptMoments q_isKept q_marchWorlds (.long v_theSeed), oX7 a_theTold q_theTold_simples q_theTold_weekdays q_theTold_answers (.int (o.2))]) 0 0 (va_A [oX9 a_th q_theText q_theQuestion q_theCastle q_now q_theActs (.ref a_theTold) q_foresight q_keptMoments q_isKept q_marchWorlds (.long v_theSeed), oX7 a_theTold q_theTold_simples q_theTold_weekdays q_theTold_answers (.int v_theTold_count)] sz) := by
  refine Met.ofW (cc := cX9_untell) (maxL := 1) (ret := (some .int)) (by decide) rfl ?_
  intro p e s m args below meth c s₁ B hml hv
  obtain ⟨rfl, hsz, hP, hK, hD0, hG⟩ := hv
  have hx := B.exec
  have hb := B.bytes
  have hr := B.returns
  have hts := atoms_spec (ws := wsX9_untell) B.pre
  have hown : s.vm.findClass RX9 = some m.cls := findClass_of_methodNamed B.named
  have hlocks := B.notSynchronized
  subst hsz
  have hD := hD0.self (sz := s.heap.size)
  generalize hAe : va_A [oX9 a_th q_theText q_theQuestion q_theCastle q_now q_theActs (.ref a_theTold) q_foresight q_keptMoments q_isKept q_marchWorlds (.long v_theSeed), oX7 a_theTold q_theTold_simples q_theTold_weekdays q_theTold_answers (.int v_theTold_count)] s.heap.size = A at hD hG ⊢
  have hA : ∀ q : Nat, s.heap.size ≤ q → A q := fun q h => by rw [← hAe]; exact Or.inr h
  have hS : va_S A s.heap s.heap [] := va_S.rf
  have hl := lv_entry ([.ref a_th]) (n := 1) (Nat.le_of_ble_eq_true rfl)
  rw [lg_entry_eq]
  generalize (lg_sl ([.ref a_th]) ++ List.replicate (1 - (lg_sl ([.ref a_th])).length) Slot.unset).toArray = ls at hl ⊢
  have hl : lv_has ls 1 [(0, .ref a_th)] := hl
  have iX9 : ∀ w ∈ wsX90, w ∈ wsX9_untell := fun _ h => List.mem_cons_of_mem _ (List.mem_append_left _ (List.mem_append_right _ h))
  have iX7 : ∀ w ∈ wsX70, w ∈ wsX9_untell := fun _ h => List.mem_cons_of_mem _ (List.mem_append_right _ h)
  have f49 := hts (.fieldLink RX9 49 "TrueOnceWeek" "theTold" "LTrueOnceWeek$Told;") (by decide +kernel)
  refine kb_gen (fun Q hQ => ?_)
  unfold m_X9_untell at hm
  refine lv_aload_n hx hb dX9_untell_0 rfl (lv_at hl 0 rfl) ?_
  refine va_get (D := (dC, dI)) (ci := 7) (v := .ref a_theTold) (C := RX9) (T := TX9) (N := 11) hx hb hts iX9 hown hK hP 0 rfl rfl 5 (by decide) f49 (fun _ h9 => h9) rfl dX9_untell_1 ?_
  obtain ⟨r1, w2, ho3, hm⟩ := bd2_s hm
  refine kb_calli (Rv := r1) (va_runV (As := []) (rest := []) ⟨hx, hb, hml, hown, hts⟩ (c_X7_forget l dC dI cI cJ cZ cQ t s.heap.size a_theTold q_theTold_simples q_theTold_weekdays q_theTold_answers v_theTold_count (r1, w2) ho3) (cwV 0 hts gX9_untell_X7_forget rfl rfl rfl (by decide +kernel) ⟨(Nat.le_of_ble_eq_true rfl), (Nat.le_of_ble_eq_true rfl)⟩) ⟨(kb_pre hK hG hP (kb_D hD rfl) hS hA [1] rfl (by decide)).1, (va_recv hK hP (ci := 6) (q0 := 1) rfl rfl), (kb_pre hK hG hP (kb_D hD rfl) hS hA [1] rfl (by decide)).2⟩ rfl rfl hl.1 rfl (lv_room (Nat.le_of_ble_eq_true rfl)) dX9_untell_4 ⟨Nat.zero_le _, Nat.zero_le _⟩) hP (kb_D hD rfl) hS hA [1] rfl [(false, 0), (true, 0)] (w2 := [oX9 a_th q_theText q_theQuestion q_theCastle q_now q_theActs (.ref a_theTold) q_foresight q_keptMoments q_isKept q_marchWorlds (.long v_theSeed), oX7 a_theTold q_theTold_simples q_theTold_weekdays q_theTold_answers (.int w2)]) rfl (by decide) (fun H locs hP hS => ?_)
  obtain rfl := Option.some.inj hm
  subst hQ
  exact W.iret hx hb hr (fun t ht hW => ⟨⟨_, (), rfl, rfl, kb_h hP ht⟩, hS.F ht⟩) hS.2.2 dX9_untell_7
set_option maxHeartbeats 4000000 in
set_option maxRecDepth 100000 in
theorem c_X7_narrow (l : Launch) (dC : Nat → ClassId) (dI : Nat → Nat → Nat) (cI cJ cZ cQ : ClassId) (t sz : Nat) (a_th : Nat) (a_simples : Nat) (a_p2 : Nat) (a_answers : Nat) (a_weekdays : Nat) (a_p1 : Nat) (n_p1 : Nat) (v_count : Int32) (v_simples : (Nat → Int32)) (v_p2_facts : Int32) (v_p2_so : Int32) (v_p2_common : Int32) (v_p2_cases : Int32) (v_p2_firstTrueDay : Int32) (v_answers : (Nat → Int32)) (v_weekdays : (Nat → Int32)) (v_p1 : (Nat → Int32)) (o : Nat → Int32) (hm : m_X7_narrow n_p1 v_count v_simples v_p2_facts v_answers v_weekdays v_p1 = some o) : Met l yX7_narrow wsX7_narrow { frames := 4, cells := 0, slots := 0, locals := 94 } (va_Pc [.ref a_th, .ref a_p1, .ref a_p2] (cP (dC, dI) (kT cI cJ cZ cQ) t sz [oX7 a_th (.ref a_simples) (.ref a_weekdays) (.ref a_answers) (.int v_count), aI cI a_simples 6 v_simples, oX1 a_p2 (.int v_p2_facts) (.int v_p2_so) (.int v_p2_common) (.int v_p2_cases) (.int v_p2_firstTrueDay), aI cI a_answers 6 v_answers, aI cI a_weekdays 6 v_weekdays, aI cI a_p1 n_p1 v_p1])) (cQv (dC, dI) (va_A [oX7 a_th (.ref a_simples) (.ref a_weekdays) (.ref a_answers) (.int v_count), aI cI a_simples 6 v_simples, oX1 a_p2 (.int v_p2_facts) (.int v_p2_so) (.int v_p2_common) (.int v_p2_cases) (.int v_p2_firstTrueDay), aI cI a_answers 6 v_answers, aI cI a_weekdays 6 v_weekdays, aI cI a_p1 n_p1 v_p1] sz) [oX7 a_th (.ref a_simples) (.ref a_weekdays) (.ref a_answers) (.int v_count), aI cI a_simples 6 v_simples, oX1 a_p2 (.int v_p2_facts) (.int v_p2_so) (.int v_p2_common) (.int v_p2_cases) (.int v_p2_firstTrueDay), aI cI a_answers 6 v_answers, aI cI a_weekdays 6 v_weekdays, aI cI a_p1 n_p1 o]) 0 0 (va_A [oX7 a_th (.ref a_simples) (.ref a_weekdays) (.ref a_answers) (.int v_count), aI cI a_simples 6 v_simples, oX1 a_p2 (.int v_p2_facts) (.int v_p2_so) (.int v_p2_common) (.int v_p2_cases) (.int v_p2_firstTrueDay), aI cI a_answers 6 v_answers, aI cI a_weekdays 6 v_weekdays, aI cI a_p1 n_p1 v_p1] sz) := by
  refine Met.ofW (cc := cX7_narrow) (maxL := 4) (ret := none) (by decide) rfl ?_
  intro p e s m args below meth c s₁ B hml hv
  obtain ⟨rfl, hsz, hP, hK, hD0, hG⟩ := hv
  have hx := B.exec
  have hb := B.bytes
  have hr := B.returns
  have hts := atoms_spec (ws := wsX7_narrow) B.pre
  have hown : s.vm.findClass RX7 = some m.cls := findClass_of_methodNamed B.named
  have hlocks := B.notSynchronized
  subst hsz
  have hD := hD0.self (sz := s.heap.size)
  generalize hAe : va_A [oX7 a_th (.ref a_simples) (.ref a_weekdays) (.ref a_answers) (.int v_count), aI cI a_simples 6 v_simples, oX1 a_p2 (.int v_p2_facts) (.int v_p2_so) (.int v_p2_common) (.int v_p2_cases) (.int v_p2_firstTrueDay), aI cI a_answers 6 v_answers, aI cI a_weekdays 6 v_weekdays, aI cI a_p1 n_p1 v_p1] s.heap.size = A at hD hG ⊢
  have hA : ∀ q : Nat, s.heap.size ≤ q → A q := fun q h => by rw [← hAe]; exact Or.inr h
  have hS : va_S A s.heap s.heap [] := va_S.rf
  have hl := lv_entry ([.ref a_th, .ref a_p1, .ref a_p2]) (n := 4) (Nat.le_of_ble_eq_true rfl)
  rw [lg_entry_eq]
  generalize (lg_sl ([.ref a_th, .ref a_p1, .ref a_p2]) ++ List.replicate (4 - (lg_sl ([.ref a_th, .ref a_p1, .ref a_p2])).length) Slot.unset).toArray = ls at hl ⊢
  have hl : lv_has ls 4 [(0, .ref a_th), (1, .ref a_p1), (2, .ref a_p2)] := hl
  have iX7 : ∀ w ∈ wsX70, w ∈ wsX7_narrow := fun _ h => List.mem_cons_of_mem _ (List.mem_append_left _ (List.mem_append_right _ h))
  have iX1 : ∀ w ∈ wsX10, w ∈ wsX7_narrow := fun _ h => List.mem_cons_of_mem _ (List.mem_append_right _ h)
  have f21 := hts (.fieldLink RX7 21 "TrueOnceWeek$Told" "count" "I") (by decide +kernel)
  have f9 := hts (.fieldLink RX7 9 "TrueOnceWeek$Told" "simples" "[I") (by decide +kernel)
  have f18 := hts (.fieldLink RX7 18 "TrueOnceWeek$Told" "answers" "[I") (by decide +kernel)
  have f15 := hts (.fieldLink RX7 15 "TrueOnceWeek$Told" "weekdays" "[I") (by decide +kernel)
  refine kb_gen (fun Q hQ => ?_)
  unfold m_X7_narrow at hm
  refine lv_iconst (v := (0 : Int32)) hx hb dX7_narrow_0 (by decide) ?_
  refine lv_istore_n (lv' := [(3, .int (0 : Int32)), (0, .ref a_th), (1, .ref a_p1), (2, .ref a_p2)]) hx hb dX7_narrow_1 rfl hl (by decide) rfl (fun ls hl => ?_)
  have lp2 : ∀ (n2 : Nat) (x1 : Int32) (w2 : (Nat → Int32)) (k2 : (Nat → Int32) → Option (Nat → Int32)) (H : Heap) (locs : List Loc) (ls : Array Slot), L_X7_narrow_2 v_count v_simples v_p2_facts v_answers v_weekdays n_p1 n2 x1 w2 k2 = some o → (∀ (w3 : (Nat → Int32)) (H : Heap) (locs : List Loc) (ls : Array Slot), k2 w3 = some o → va_P (dC, dI) vwCl [oX7 a_th (.ref a_simples) (.ref a_weekdays) (.ref a_answers) (.int v_count), aI cI a_simples 6 v_simples, oX1 a_p2 (.int v_p2_facts) (.int v_p2_so) (.int v_p2_common) (.int v_p2_cases) (.int v_p2_firstTrueDay), aI cI a_answers 6 v_answers, aI cI a_weekdays 6 v_weekdays, aI cI a_p1 n_p1 w3] H → va_S A s.heap H locs → lv_has ls 4 [] → W p l e (headSpec wsX7_narrow { frames := 4, cells := 0, slots := 0, locals := 94 }).room s m [.ref a_th, .ref a_p1, .ref a_p2].toArray below meth c H locs 0 0 Q (F0 m 52 ls [])) → va_P (dC, dI) vwCl [oX7 a_th (.ref a_simples) (.ref a_weekdays) (.ref a_answers) (.int v_count), aI cI a_simples 6 v_simples, oX1 a_p2 (.int v_p2_facts) (.int v_p2_so) (.int v_p2_common) (.int v_p2_cases) (.int v_p2_firstTrueDay), aI cI a_answers 6 v_answers, aI cI a_weekdays 6 v_weekdays, aI cI a_p1 n_p1 w2] H → va_S A s.heap H locs → lv_has ls 4 [(0, .ref a_th), (1, .ref a_p1), (2, .ref a_p2), (3, .int x1)] → W p l e (headSpec wsX7_narrow { frames := 4, cells := 0, slots := 0, locals := 94 }).room s m [.ref a_th, .ref a_p1, .ref a_p2].toArray below meth c H locs 0 0 Q (F0 m 2 ls []) := by
    intro n2
    induction n2 with
    | zero =>
      intro x1 w2 k2 H locs ls hm
      cases (show (none : Option (Nat → Int32)) = some o from hm)
    | succ n2 ih2 =>
      intro x1 w2 k2 H locs ls hm hk2 hP hS hl
      rw [L_X7_narrow_2.eq_2] at hm
      refine lv_iload_n hx hb dX7_narrow_2 rfl (lv_at hl 3 rfl) ?_
      refine lv_aload_n hx hb dX7_narrow_3 rfl (lv_at hl 0 rfl) ?_
      refine va_get (D := (dC, dI)) (ci := 6) (v := .int v_count) (C := RX7) (T := TX7) (N := 4) hx hb hts iX7 hown hK hP 0 rfl rfl 3 (by decide) f21 (fun _ h9 => h9) rfl dX7_narrow_4 ?_
      refine lv_icmp_ge (tgt := 52) hx hb dX7_narrow_7 (by decide) (fun c4 => ?_) (fun c4 => ?_)
      · replace hm := ite_t c4 hm
        exact hk2 w2 _ _ _ hm hP hS (lv_sub hl [] rfl)
      · replace hm := ite_f c4 hm
        refine lv_aload_n hx hb dX7_narrow_10 rfl (lv_at hl 2 rfl) ?_
        refine lv_aload_n hx hb dX7_narrow_11 rfl (lv_at hl 0 rfl) ?_
        refine va_get (D := (dC, dI)) (ci := 6) (v := .ref a_simples) (C := RX7) (T := TX7) (N := 4) hx hb hts iX7 hown hK hP 0 rfl rfl 0 (by decide) f9 (fun _ h9 => h9) rfl dX7_narrow_12 ?_
        refine lv_iload_n hx hb dX7_narrow_15 rfl (lv_at hl 3 rfl) ?_
        obtain ⟨h5, hm⟩ := gd_s hm
        refine va_iald hx hb hK hP 1 0 rfl rfl (inB_s h5) dX7_narrow_16 ?_
        obtain ⟨r6, ho7, hm⟩ := bd1_s hm
        refine kb_calli (Rv := r6) (va_runV (As := [.int (v_simples (Int32.toNatClampNeg x1))]) (rest := []) ⟨hx, hb, hml, hown, hts⟩ (c_X1_hasSimple l dC dI cI cJ cZ cQ t H.size a_p2 v_p2_facts v_p2_so v_p2_common v_p2_cases v_p2_firstTrueDay (v_simples (Int32.toNatClampNeg x1)) (r6) ho7) (cwV 1 hts gX7_narrow_X1_hasSimple rfl rfl rfl (by decide +kernel) ⟨(Nat.le_of_ble_eq_true rfl), (Nat.le_of_ble_eq_true rfl)⟩) ⟨(kb_pre hK hG hP (kb_D hD rfl) hS hA [2] rfl (by decide)).1, (va_recv hK hP (ci := 1) (q0 := 2) rfl rfl), (kb_pre hK hG hP (kb_D hD rfl) hS hA [2] rfl (by decide)).2⟩ rfl rfl hl.1 rfl (lv_room (Nat.le_of_ble_eq_true rfl)) dX7_narrow_17 ⟨Nat.zero_le _, Nat.zero_le _⟩) hP (kb_D hD rfl) hS hA [2] rfl [(false, 0), (false, 1), (true, 0), (false, 3), (false, 4), (false, 5)] (w2 := [oX7 a_th (.ref a_simples) (.ref a_weekdays) (.ref a_answers) (.int v_count), aI cI a_simples 6 v_simples, oX1 a_p2 (.int v_p2_facts) (.int v_p2_so) (.int v_p2_common) (.int v_p2_cases) (.int v_p2_firstTrueDay), aI cI a_answers 6 v_answers, aI cI a_weekdays 6 v_weekdays, aI cI a_p1 n_p1 w2]) rfl (by decide) (fun H locs hP hS => ?_)
        obtain ⟨k46, ek46, hm⟩ := nm_s hm
        have J46 : ∀ (w8 : (Nat → Int32)) (H : Heap) (locs : List Loc) (ls : Array Slot), k46 w8 = some o → va_P (dC, dI) vwCl [oX7 a_th (.ref a_simples) (.ref a_weekdays) (.ref a_answers) (.int v_count), aI cI a_simples 6 v_simples, oX1 a_p2 (.int v_p2_facts) (.int v_p2_so) (.int v_p2_common) (.int v_p2_cases) (.int v_p2_firstTrueDay), aI cI a_answers 6 v_answers, aI cI a_weekdays 6 v_weekdays, aI cI a_p1 n_p1 w8] H → va_S A s.heap H locs → lv_has ls 4 [(0, .ref a_th), (1, .ref a_p1), (2, .ref a_p2), (3, .int x1)] → W p l e (headSpec wsX7_narrow { frames := 4, cells := 0, slots := 0, locals := 94 }).room s m [.ref a_th, .ref a_p1, .ref a_p2].toArray below meth c H locs 0 0 Q (F0 m 46 ls []) := by
          intro w8 H locs ls hm hP hS hl
          rw [ek46] at hm
          obtain ⟨x9, ex9⟩ : ∃ y : Int32, y = x1 + (1 : Int32) := ⟨_, rfl⟩
          replace hm := nm_t ex9 hm
          refine lv_iinc (v := x9) (lv' := [(3, .int x9), (0, .ref a_th), (1, .ref a_p1), (2, .ref a_p2)]) hx hb dX7_narrow_46 hl (k := 3) rfl (by rw [ex9]; rfl) (by decide) rfl (fun ls hl => ?_)
          refine lv_goto (tgt := 2) hx hb dX7_narrow_49 (by decide) ?_
          exact ih2 x9 w8 k2 _ _ _ hm hk2 hP hS (lv_sub hl [1, 2, 3, 0] rfl)
        refine lv_if_eq (tgt := 46) hx hb dX7_narrow_20 (by decide) (fun c10 => ?_) (fun c10 => ?_)
        · replace hm := ite_t c10 hm
          exact J46 w2 _ _ _ hm hP hS (lv_sub hl [0, 1, 2, 3] rfl)
        · replace hm := ite_f c10 hm
          refine lv_aload_n hx hb dX7_narrow_23 rfl (lv_at hl 1 rfl) ?_
          refine lv_aload_n hx hb dX7_narrow_24 rfl (lv_at hl 1 rfl) ?_
          refine lv_aload_n hx hb dX7_narrow_25 rfl (lv_at hl 0 rfl) ?_
          refine va_get (D := (dC, dI)) (ci := 6) (v := .ref a_simples) (C := RX7) (T := TX7) (N := 4) hx hb hts iX7 hown hK hP 0 rfl rfl 0 (by decide) f9 (fun _ h9 => h9) rfl dX7_narrow_26 ?_
          refine lv_iload_n hx hb dX7_narrow_29 rfl (lv_at hl 3 rfl) ?_
          obtain ⟨h11, hm⟩ := gd_s hm
          refine va_iald hx hb hK hP 1 0 rfl rfl (inB_s h11) dX7_narrow_30 ?_
          refine lv_aload_n hx hb dX7_narrow_31 rfl (lv_at hl 0 rfl) ?_
          refine va_get (D := (dC, dI)) (ci := 6) (v := .ref a_answers) (C := RX7) (T := TX7) (N := 4) hx hb hts iX7 hown hK hP 0 rfl rfl 2 (by decide) f18 (fun _ h9 => h9) rfl dX7_narrow_32 ?_
          refine lv_iload_n hx hb dX7_narrow_35 rfl (lv_at hl 3 rfl) ?_
          obtain ⟨h12, hm⟩ := gd_s hm
          refine va_iald hx hb hK hP 3 0 rfl rfl (inB_s h12) dX7_narrow_36 ?_
          refine lv_aload_n hx hb dX7_narrow_37 rfl (lv_at hl 0 rfl) ?_
          refine va_get (D := (dC, dI)) (ci := 6) (v := .ref a_weekdays) (C := RX7) (T := TX7) (N := 4) hx hb hts iX7 hown hK hP 0 rfl rfl 1 (by decide) f15 (fun _ h9 => h9) rfl dX7_narrow_38 ?_
          refine lv_iload_n hx hb dX7_narrow_41 rfl (lv_at hl 3 rfl) ?_
          obtain ⟨h13, hm⟩ := gd_s hm
          refine va_iald hx hb hK hP 4 0 rfl rfl (inB_s h13) dX7_narrow_42 ?_
          obtain ⟨w14, ho15, hm⟩ := bd1_s hm
          refine kb_callv (va_runS (As := [.ref a_p1, .ref a_p1, .int (v_simples (Int32.toNatClampNeg x1)), .int (v_answers (Int32.toNatClampNeg x1)), .int (v_weekdays (Int32.toNatClampNeg x1))]) (rest := []) ⟨hx, hb, hml, hown, hts⟩ (c_X8_narrow_e01 l dC dI cI cJ cZ cQ t H.size a_p1 n_p1 w2 (v_simples (Int32.toNatClampNeg x1)) (v_answers (Int32.toNatClampNeg x1)) (v_weekdays (Int32.toNatClampNeg x1)) (w14) ho15) (va_cwS 5 hts gX7_narrow_X8_narrow rfl rfl rfl (by decide +kernel) ⟨(Nat.le_of_ble_eq_true rfl), (Nat.le_of_ble_eq_true rfl)⟩) (kb_pre hK hG hP (kb_D hD rfl) hS hA [5] rfl (by decide)) rfl rfl hl.1 rfl (lv_room (Nat.le_of_ble_eq_true rfl)) dX7_narrow_43 ⟨Nat.zero_le _, Nat.zero_le _⟩) hP (kb_D hD rfl) hS hA [5] rfl [(false, 0), (false, 1), (false, 2), (false, 3), (false, 4), (true, 0)] (w2 := [oX7 a_th (.ref a_simples) (.ref a_weekdays) (.ref a_answers) (.int v_count), aI cI a_simples 6 v_simples, oX1 a_p2 (.int v_p2_facts) (.int v_p2_so) (.int v_p2_common) (.int v_p2_cases) (.int v_p2_firstTrueDay), aI cI a_answers 6 v_answers, aI cI a_weekdays 6 v_weekdays, aI cI a_p1 n_p1 w14]) rfl (by decide) (fun H locs hP hS => ?_)
          exact J46 w14 _ _ _ hm hP hS (lv_sub hl [0, 1, 2, 3] rfl)
  refine lp2 1024 (0 : Int32) v_p1 _ _ _ _ hm (fun w3 H locs ls hm hP hS hl => ?_) hP hS (lv_sub hl [1, 2, 3, 0] rfl)
  obtain rfl := Option.some.inj hm
  subst hQ
  exact W.vret hx hb hr (fun t ht hW => ⟨⟨(), rfl, trivial, kb_h hP ht⟩, hS.F ht⟩) hS.2.2 dX7_narrow_52
set_option maxHeartbeats 4000000 in
set_option maxRecDepth 100000 in
theorem c_X9_factsOfMarch (l : Launch) (dC : Nat → ClassId) (dI : Nat → Nat → Nat) (cI cJ cZ cQ : ClassId) (t sz : Nat) (a_th : Nat) (a_marchWorlds : Nat) (a_theCastle : Nat) (q_theText : Value) (q_theQuestion : Value) (q_now : Value) (q_theActs : Value) (q_theTold : Value) (q_foresight : Value) (q_keptMoments : Value) (q_isKept : Value) (v_theSeed : Int64) (v_marchWorlds : (Nat → Int32)) (v_theCastle_facts : Int32) (v_theCastle_so : Int32) (v_theCastle_common : Int32) (v_theCastle_cases : Int32) (v_theCastle_firstTrueDay : Int32) (p_1 : Int32) (o : Int32) (hm : m_X9_factsOfMarch p_1 v_marchWorlds v_theCastle_facts = some o) : Met l yX9_factsOfMarch wsX9_factsOfMarch { frames := 2, cells := 0, slots := 0, locals := 41 } (va_Pc [.ref a_th, .int p_1] (cP (dC, dI) (kT cI cJ cZ cQ) t sz [oX9 a_th q_theText q_theQuestion (.ref a_theCastle) q_now q_theActs q_theTold q_foresight q_keptMoments q_isKept (.ref a_marchWorlds) (.long v_theSeed), aI cI a_marchWorlds 7 v_marchWorlds, oX1 a_theCastle (.int v_theCastle_facts) (.int v_theCastle_so) (.int v_theCastle_common) (.int v_theCastle_cases) (.int v_theCastle_firstTrueDay)])) (cQi (dC, dI) (va_A [oX9 a_th q_theText q_theQuestion (.ref a_theCastle) q_now q_theActs q_theTold q_foresight q_keptMoments q_isKept (.ref a_marchWorlds) (.long v_theSeed), aI cI a_marchWorlds 7 v_marchWorlds, oX1 a_theCastle (.int v_theCastle_facts) (.int v_theCastle_so) (.int v_theCastle_common) (.int v_theCastle_cases) (.int v_theCastle_firstTrueDay)] sz) o [oX9 a_th q_theText q_theQuestion (.ref a_theCastle) q_now q_theActs q_theTold q_foresight q_keptMoments q_isKept (.ref a_marchWorlds) (.long v_theSeed), aI cI a_marchWorlds 7 v_marchWorlds, oX1 a_theCastle (.int v_theCastle_facts) (.int v_theCastle_so) (.int v_theCastle_common) (.int v_theCastle_cases) (.int v_theCastle_firstTrueDay)]) 0 0 (va_A [oX9 a_th q_theText q_theQuestion (.ref a_theCastle) q_now q_theActs q_theTold q_foresight q_keptMoments q_isKept (.ref a_marchWorlds) (.long v_theSeed), aI cI a_marchWorlds 7 v_marchWorlds, oX1 a_theCastle (.int v_theCastle_facts) (.int v_theCastle_so) (.int v_theCastle_common) (.int v_theCastle_cases) (.int v_theCastle_firstTrueDay)] sz) := by
  refine Met.ofW (cc := cX9_factsOfMarch) (maxL := 5) (ret := (some .int)) (by decide) rfl ?_
  intro p e s m args below meth c s₁ B hml hv
  obtain ⟨rfl, hsz, hP, hK, hD0, hG⟩ := hv
  have hx := B.exec
  have hb := B.bytes
  have hr := B.returns
  have hts := atoms_spec (ws := wsX9_factsOfMarch) B.pre
  have hown : s.vm.findClass RX9 = some m.cls := findClass_of_methodNamed B.named
  have hlocks := B.notSynchronized
  subst hsz
  have hD := hD0.self (sz := s.heap.size)
  generalize hAe : va_A [oX9 a_th q_theText q_theQuestion (.ref a_theCastle) q_now q_theActs q_theTold q_foresight q_keptMoments q_isKept (.ref a_marchWorlds) (.long v_theSeed), aI cI a_marchWorlds 7 v_marchWorlds, oX1 a_theCastle (.int v_theCastle_facts) (.int v_theCastle_so) (.int v_theCastle_common) (.int v_theCastle_cases) (.int v_theCastle_firstTrueDay)] s.heap.size = A at hD hG ⊢
  have hA : ∀ q : Nat, s.heap.size ≤ q → A q := fun q h => by rw [← hAe]; exact Or.inr h
  have hS : va_S A s.heap s.heap [] := va_S.rf
  have hl := lv_entry ([.ref a_th, .int p_1]) (n := 5) (Nat.le_of_ble_eq_true rfl)
  rw [lg_entry_eq]
  generalize (lg_sl ([.ref a_th, .int p_1]) ++ List.replicate (5 - (lg_sl ([.ref a_th, .int p_1])).length) Slot.unset).toArray = ls at hl ⊢
  have hl : lv_has ls 5 [(0, .ref a_th), (1, .int p_1)] := hl
  have iX9 : ∀ w ∈ wsX90, w ∈ wsX9_factsOfMarch := fun _ h => List.mem_cons_of_mem _ (List.mem_append_left _ (List.mem_append_right _ h))
  have iX1 : ∀ w ∈ wsX10, w ∈ wsX9_factsOfMarch := fun _ h => List.mem_cons_of_mem _ (List.mem_append_right _ h)
  have f68 := hts (.fieldLink RX9 68 "TrueOnceWeek" "marchWorlds" "[I") (by decide +kernel)
  have f28 := hts (.fieldLink RX9 28 "TrueOnceWeek" "theCastle" "LTrueOnceWeek$Castle;") (by decide +kernel)
  have f101 := va_Nw.use (A := [.ref a_th, .int p_1].toArray) (w := .fieldLinkNest RX9 101 "TrueOnceWeek$Castle" "facts" "I" "TrueOnceWeek") rfl (hG.1 (RX9, 101, "TrueOnceWeek$Castle", "facts", "I") (by decide +kernel))
  refine kb_gen (fun Q hQ => ?_)
  unfold m_X9_factsOfMarch at hm
  refine lv_aload_n hx hb dX9_factsOfMarch_0 rfl (lv_at hl 0 rfl) ?_
  refine va_get (D := (dC, dI)) (ci := 7) (v := .ref a_marchWorlds) (C := RX9) (T := TX9) (N := 11) hx hb hts iX9 hown hK hP 0 rfl rfl 9 (by decide) f68 (fun _ h9 => h9) rfl dX9_factsOfMarch_1 ?_
  obtain ⟨r1, ho2, hm⟩ := bd1_s hm
  refine kb_calli (Rv := r1) (va_runS (As := [.ref a_marchWorlds]) (rest := []) ⟨hx, hb, hml, hown, hts⟩ (c_X8_casesOfAnyDay l dC dI cI cJ cZ cQ t s.heap.size a_marchWorlds 7 v_marchWorlds (r1) ho2) (va_cwS 1 hts gX9_factsOfMarch_X8_casesOfAnyDay rfl rfl rfl (by decide +kernel) ⟨(Nat.le_of_ble_eq_true rfl), (Nat.le_of_ble_eq_true rfl)⟩) (kb_pre hK hG hP (kb_D hD rfl) hS hA [1] rfl (by decide)) rfl rfl hl.1 rfl (lv_room (Nat.le_of_ble_eq_true rfl)) dX9_factsOfMarch_4 ⟨Nat.zero_le _, Nat.zero_le _⟩) hP (kb_D hD rfl) hS hA [1] rfl [(false, 0), (true, 0), (false, 2)] (w2 := [oX9 a_th q_theText q_theQuestion (.ref a_theCastle) q_now q_theActs q_theTold q_foresight q_keptMoments q_isKept (.ref a_marchWorlds) (.long v_theSeed), aI cI a_marchWorlds 7 v_marchWorlds, oX1 a_theCastle (.int v_theCastle_facts) (.int v_theCastle_so) (.int v_theCastle_common) (.int v_theCastle_cases) (.int v_theCastle_firstTrueDay)]) rfl (by decide) (fun H locs hP hS => ?_)
  refine lv_istore_n (lv' := [(2, .int r1), (0, .ref a_th), (1, .int p_1)]) hx hb dX9_factsOfMarch_7 rfl hl (by decide) rfl (fun ls hl => ?_)
  refine lv_iload_n hx hb dX9_factsOfMarch_8 rfl (lv_at hl 0 rfl) ?_
  refine lv_if_ne (tgt := 15) hx hb dX9_factsOfMarch_9 (by decide) (fun c3 => ?_) (fun c3 => ?_)
  · replace hm := ite_f c3 hm
    refine lv_iconst (v := (0 : Int32)) hx hb dX9_factsOfMarch_15 (by decide) ?_
    refine lv_istore_n (lv' := [(3, .int (0 : Int32)), (2, .int r1), (0, .ref a_th), (1, .int p_1)]) hx hb dX9_factsOfMarch_16 rfl hl (by decide) rfl (fun ls hl => ?_)
    refine lv_iconst (v := (0 : Int32)) hx hb dX9_factsOfMarch_17 (by decide) ?_
    refine lv_istore (lv' := [(4, .int (0 : Int32)), (3, .int (0 : Int32)), (2, .int r1), (0, .ref a_th), (1, .int p_1)]) hx hb dX9_factsOfMarch_18 hl (by decide) rfl (fun ls hl => ?_)
    have lp20 : ∀ (n20 : Nat) (x4 : Int32) (x5 : Int32) (k20 : Int32 → Option (Int32)) (H : Heap) (locs : List Loc) (ls : Array Slot), L_X9_factsOfMarch_20 v_theCastle_facts p_1 r1 n20 x4 x5 k20 = some o → (∀ (x6 : Int32) (H : Heap) (locs : List Loc) (ls : Array Slot), k20 x6 = some o → va_P (dC, dI) vwCl [oX9 a_th q_theText q_theQuestion (.ref a_theCastle) q_now q_theActs q_theTold q_foresight q_keptMoments q_isKept (.ref a_marchWorlds) (.long v_theSeed), aI cI a_marchWorlds 7 v_marchWorlds, oX1 a_theCastle (.int v_theCastle_facts) (.int v_theCastle_so) (.int v_theCastle_common) (.int v_theCastle_cases) (.int v_theCastle_firstTrueDay)] H → va_S A s.heap H locs → lv_has ls 5 [(3, .int x6)] → W p l e (headSpec wsX9_factsOfMarch { frames := 2, cells := 0, slots := 0, locals := 41 }).room s m [.ref a_th, .int p_1].toArray below meth c H locs 0 0 Q (F0 m 70 ls [])) → va_P (dC, dI) vwCl [oX9 a_th q_theText q_theQuestion (.ref a_theCastle) q_now q_theActs q_theTold q_foresight q_keptMoments q_isKept (.ref a_marchWorlds) (.long v_theSeed), aI cI a_marchWorlds 7 v_marchWorlds, oX1 a_theCastle (.int v_theCastle_facts) (.int v_theCastle_so) (.int v_theCastle_common) (.int v_theCastle_cases) (.int v_theCastle_firstTrueDay)] H → va_S A s.heap H locs → lv_has ls 5 [(0, .ref a_th), (1, .int p_1), (2, .int r1), (3, .int x4), (4, .int x5)] → W p l e (headSpec wsX9_factsOfMarch { frames := 2, cells := 0, slots := 0, locals := 41 }).room s m [.ref a_th, .int p_1].toArray below meth c H locs 0 0 Q (F0 m 20 ls []) := by
      intro n20
      induction n20 with
      | zero =>
        intro x4 x5 k20 H locs ls hm
        cases (show (none : Option (Int32)) = some o from hm)
      | succ n20 ih20 =>
        intro x4 x5 k20 H locs ls hm hk20 hP hS hl
        rw [L_X9_factsOfMarch_20.eq_2] at hm
        refine lv_iload hx hb dX9_factsOfMarch_20 (lv_at hl 4 rfl) ?_
        refine lv_aload_n hx hb dX9_factsOfMarch_22 rfl (lv_at hl 0 rfl) ?_
        refine va_get (D := (dC, dI)) (ci := 7) (v := .ref a_theCastle) (C := RX9) (T := TX9) (N := 11) hx hb hts iX9 hown hK hP 0 rfl rfl 2 (by decide) f28 (fun _ h9 => h9) rfl dX9_factsOfMarch_23 ?_
        refine va_getN (D := (dC, dI)) (ci := 1) (v := .int v_theCastle_facts) (C := RX1) (T := TX1) (N := 5) hx hb hts iX1 hown hK hP 2 rfl rfl 0 (by decide) f101 (fun _ h9 => h9) rfl dX9_factsOfMarch_26 ?_
        refine lv_icmp_ge (tgt := 70) hx hb dX9_factsOfMarch_29 (by decide) (fun c7 => ?_) (fun c7 => ?_)
        · replace hm := ite_t c7 hm
          exact hk20 x4 _ _ _ hm hP hS (lv_sub hl [3] rfl)
        · replace hm := ite_f c7 hm
          refine lv_iload_n hx hb dX9_factsOfMarch_32 rfl (lv_at hl 1 rfl) ?_
          obtain ⟨k64, ek64, hm⟩ := nm_s hm
          have J64 : ∀ (x8 : Int32) (H : Heap) (locs : List Loc) (ls : Array Slot), k64 x8 = some o → va_P (dC, dI) vwCl [oX9 a_th q_theText q_theQuestion (.ref a_theCastle) q_now q_theActs q_theTold q_foresight q_keptMoments q_isKept (.ref a_marchWorlds) (.long v_theSeed), aI cI a_marchWorlds 7 v_marchWorlds, oX1 a_theCastle (.int v_theCastle_facts) (.int v_theCastle_so) (.int v_theCastle_common) (.int v_theCastle_cases) (.int v_theCastle_firstTrueDay)] H → va_S A s.heap H locs → lv_has ls 5 [(0, .ref a_th), (1, .int p_1), (2, .int r1), (3, .int x8), (4, .int x5)] → W p l e (headSpec wsX9_factsOfMarch { frames := 2, cells := 0, slots := 0, locals := 41 }).room s m [.ref a_th, .int p_1].toArray below meth c H locs 0 0 Q (F0 m 64 ls []) := by
            intro x8 H locs ls hm hP hS hl
            rw [ek64] at hm
            obtain ⟨x9, ex9⟩ : ∃ y : Int32, y = x5 + (1 : Int32) := ⟨_, rfl⟩
            replace hm := nm_t ex9 hm
            refine lv_iinc (v := x9) (lv' := [(4, .int x9), (0, .ref a_th), (1, .int p_1), (2, .int r1), (3, .int x8)]) hx hb dX9_factsOfMarch_64 hl (k := 4) rfl (by rw [ex9]; rfl) (by decide) rfl (fun ls hl => ?_)
            refine lv_goto (tgt := 20) hx hb dX9_factsOfMarch_67 (by decide) ?_
            exact ih20 x8 x9 k20 _ _ _ hm hk20 hP hS (lv_sub hl [1, 2, 3, 4, 0] rfl)
          obtain ⟨k57, ek57, hm⟩ := nm_s hm
          have J57 : ∀ (H : Heap) (locs : List Loc) (ls : Array Slot), k57 = some o → va_P (dC, dI) vwCl [oX9 a_th q_theText q_theQuestion (.ref a_theCastle) q_now q_theActs q_theTold q_foresight q_keptMoments q_isKept (.ref a_marchWorlds) (.long v_theSeed), aI cI a_marchWorlds 7 v_marchWorlds, oX1 a_theCastle (.int v_theCastle_facts) (.int v_theCastle_so) (.int v_theCastle_common) (.int v_theCastle_cases) (.int v_theCastle_firstTrueDay)] H → va_S A s.heap H locs → lv_has ls 5 [(0, .ref a_th), (1, .int p_1), (2, .int r1), (3, .int x4), (4, .int x5)] → W p l e (headSpec wsX9_factsOfMarch { frames := 2, cells := 0, slots := 0, locals := 41 }).room s m [.ref a_th, .int p_1].toArray below meth c H locs 0 0 Q (F0 m 57 ls []) := by
            intro  H locs ls hm hP hS hl
            rw [ek57] at hm
            refine lv_iload_n hx hb dX9_factsOfMarch_57 rfl (lv_at hl 3 rfl) ?_
            refine lv_iconst (v := (1 : Int32)) hx hb dX9_factsOfMarch_58 (by decide) ?_
            refine lv_iload hx hb dX9_factsOfMarch_59 (lv_at hl 4 rfl) ?_
            refine lv_ishl hx hb dX9_factsOfMarch_61 ?_
            refine lv_ior hx hb dX9_factsOfMarch_62 ?_
            refine lv_topi (fun x10 ex10 => ?_)
            replace hm := nm_t ex10 hm
            refine lv_istore_n (lv' := [(3, .int x10), (0, .ref a_th), (1, .int p_1), (2, .int r1), (4, .int x5)]) hx hb dX9_factsOfMarch_63 rfl hl (by decide) rfl (fun ls hl => ?_)
            exact J64 x10 _ _ _ hm hP hS (lv_sub hl [1, 2, 3, 0, 4] rfl)
          refine lv_if_eq (tgt := 48) hx hb dX9_factsOfMarch_33 (by decide) (fun c11 => ?_) (fun c11 => ?_)
          · replace hm := ite_t c11 hm
            refine lv_iload_n hx hb dX9_factsOfMarch_48 rfl (lv_at hl 2 rfl) ?_
            refine lv_iload hx hb dX9_factsOfMarch_49 (lv_at hl 4 rfl) ?_
            obtain ⟨r12, ho13, hm⟩ := bd1_s hm
            refine kb_calli (Rv := r12) (va_runS (As := [.int r1, .int x5]) (rest := []) ⟨hx, hb, hml, hown, hts⟩ (c_X9_isSoInNone l dC dI cI cJ cZ cQ t H.size r1 x5 (r12) ho13) (va_cwS 2 hts gX9_factsOfMarch_X9_isSoInNone rfl rfl rfl (by decide +kernel) ⟨(Nat.le_of_ble_eq_true rfl), (Nat.le_of_ble_eq_true rfl)⟩) (kb_pre hK hG hP (kb_D hD rfl) hS hA [] rfl (by decide)) rfl rfl hl.1 rfl (lv_room (Nat.le_of_ble_eq_true rfl)) dX9_factsOfMarch_51 ⟨Nat.zero_le _, Nat.zero_le _⟩) hP (kb_D hD rfl) hS hA [] rfl [(false, 0), (false, 1), (false, 2)] (w2 := [oX9 a_th q_theText q_theQuestion (.ref a_theCastle) q_now q_theActs q_theTold q_foresight q_keptMoments q_isKept (.ref a_marchWorlds) (.long v_theSeed), aI cI a_marchWorlds 7 v_marchWorlds, oX1 a_theCastle (.int v_theCastle_facts) (.int v_theCastle_so) (.int v_theCastle_common) (.int v_theCastle_cases) (.int v_theCastle_firstTrueDay)]) rfl (by decide) (fun H locs hP hS => ?_)
            refine lv_if_eq (tgt := 64) hx hb dX9_factsOfMarch_54 (by decide) (fun c14 => ?_) (fun c14 => ?_)
            · replace hm := ite_t c14 hm
              exact J64 x4 _ _ _ hm hP hS (lv_sub hl [0, 1, 2, 3, 4] rfl)
            · replace hm := ite_f c14 hm
              exact J57  _ _ _ hm hP hS (lv_sub hl [0, 1, 2, 3, 4] rfl)
          · replace hm := ite_f c11 hm
            refine lv_iload_n hx hb dX9_factsOfMarch_36 rfl (lv_at hl 2 rfl) ?_
            refine lv_iload hx hb dX9_factsOfMarch_37 (lv_at hl 4 rfl) ?_
            obtain ⟨r15, ho16, hm⟩ := bd1_s hm
            refine kb_calli (Rv := r15) (va_runS (As := [.int r1, .int x5]) (rest := []) ⟨hx, hb, hml, hown, hts⟩ (c_X9_isSoInAll l dC dI cI cJ cZ cQ t H.size r1 x5 (r15) ho16) (va_cwS 2 hts gX9_factsOfMarch_X9_isSoInAll rfl rfl rfl (by decide +kernel) ⟨(Nat.le_of_ble_eq_true rfl), (Nat.le_of_ble_eq_true rfl)⟩) (kb_pre hK hG hP (kb_D hD rfl) hS hA [] rfl (by decide)) rfl rfl hl.1 rfl (lv_room (Nat.le_of_ble_eq_true rfl)) dX9_factsOfMarch_39 ⟨Nat.zero_le _, Nat.zero_le _⟩) hP (kb_D hD rfl) hS hA [] rfl [(false, 0), (false, 1), (false, 2)] (w2 := [oX9 a_th q_theText q_theQuestion (.ref a_theCastle) q_now q_theActs q_theTold q_foresight q_keptMoments q_isKept (.ref a_marchWorlds) (.long v_theSeed), aI cI a_marchWorlds 7 v_marchWorlds, oX1 a_theCastle (.int v_theCastle_facts) (.int v_theCastle_so) (.int v_theCastle_common) (.int v_theCastle_cases) (.int v_theCastle_firstTrueDay)]) rfl (by decide) (fun H locs hP hS => ?_)
            refine lv_if_eq (tgt := 64) hx hb dX9_factsOfMarch_42 (by decide) (fun c17 => ?_) (fun c17 => ?_)
            · replace hm := ite_t c17 hm
              exact J64 x4 _ _ _ hm hP hS (lv_sub hl [0, 1, 2, 3, 4] rfl)
            · replace hm := ite_f c17 hm
              refine lv_goto (tgt := 57) hx hb dX9_factsOfMarch_45 (by decide) ?_
              exact J57  _ _ _ hm hP hS (lv_sub hl [0, 1, 2, 3, 4] rfl)
    refine lp20 1024 (0 : Int32) (0 : Int32) _ _ _ _ hm (fun x6 H locs ls hm hP hS hl => ?_) hP hS (lv_sub hl [3, 4, 2, 1, 0] rfl)
    refine lv_iload_n hx hb dX9_factsOfMarch_70 rfl (lv_at hl 0 rfl) ?_
    obtain rfl := Option.some.inj hm
    subst hQ
    exact W.iret hx hb hr (fun t ht hW => ⟨⟨_, (), rfl, rfl, kb_h hP ht⟩, hS.F ht⟩) hS.2.2 dX9_factsOfMarch_71
  · replace hm := ite_t c3 hm
    refine lv_bipush (v := (-9 : Int32)) hx hb dX9_factsOfMarch_12 (by decide) ?_
    obtain rfl := Option.some.inj hm
    subst hQ
    exact W.iret hx hb hr (fun t ht hW => ⟨⟨_, (), rfl, rfl, kb_h hP ht⟩, hS.F ht⟩) hS.2.2 dX9_factsOfMarch_14
set_option maxHeartbeats 4000000 in
set_option maxRecDepth 100000 in
theorem c_X9_march (l : Launch) (dC : Nat → ClassId) (dI : Nat → Nat → Nat) (cI cJ cZ cQ : ClassId) (t sz : Nat) (a_th : Nat) (a_theCastle : Nat) (a_marchWorlds : Nat) (a_theTold : Nat) (a_theTold_simples : Nat) (a_theTold_answers : Nat) (a_theTold_weekdays : Nat) (q_theText : Value) (q_theQuestion : Value) (q_now : Value) (q_theActs : Value) (q_foresight : Value) (q_keptMoments : Value) (q_isKept : Value) (v_theSeed : Int64) (v_theCastle_facts : Int32) (v_theCastle_so : Int32) (v_theCastle_common : Int32) (v_theCastle_cases : Int32) (v_theCastle_firstTrueDay : Int32) (v_marchWorlds : (Nat → Int32)) (v_theTold_count : Int32) (v_theTold_simples : (Nat → Int32)) (v_theTold_answers : (Nat → Int32)) (v_theTold_weekdays : (Nat → Int32)) (p_1 : Int32) (o : Int32 × (Nat → Int32)) (hm : m_X9_march p_1 v_theCastle_facts v_theCastle_cases v_marchWorlds v_theTold_count v_theTold_simples v_theTold_answers v_theTold_weekdays = some o) : Met l yX9_march wsX9_march { frames := 5, cells := 0, slots := 0, locals := 117 } (va_Pc [.ref a_th, .int p_1] (cP (dC, dI) (kT cI cJ cZ cQ) t sz [oX9 a_th q_theText q_theQuestion (.ref a_theCastle) q_now q_theActs (.ref a_theTold) q_foresight q_keptMoments q_isKept (.ref a_marchWorlds) (.long v_theSeed), oX1 a_theCastle (.int v_theCastle_facts) (.int v_theCastle_so) (.int v_theCastle_common) (.int v_theCastle_cases) (.int v_theCastle_firstTrueDay), aI cI a_marchWorlds 7 v_marchWorlds, oX7 a_theTold (.ref a_theTold_simples) (.ref a_theTold_weekdays) (.ref a_theTold_answers) (.int v_theTold_count), aI cI a_theTold_simples 6 v_theTold_simples, aI cI a_theTold_answers 6 v_theTold_answers, aI cI a_theTold_weekdays 6 v_theTold_weekdays])) (cQi (dC, dI) (va_A [oX9 a_th q_theText q_theQuestion (.ref a_theCastle) q_now q_theActs (.ref a_theTold) q_foresight q_keptMoments q_isKept (.ref a_marchWorlds) (.long v_theSeed), oX1 a_theCastle (.int v_theCastle_facts) (.int v_theCastle_so) (.int v_theCastle_common) (.int v_theCastle_cases) (.int v_theCastle_firstTrueDay), aI cI a_marchWorlds 7 v_marchWorlds, oX7 a_theTold (.ref a_theTold_simples) (.ref a_theTold_weekdays) (.ref a_theTold_answers) (.int v_theTold_count), aI cI a_theTold_simples 6 v_theTold_simples, aI cI a_theTold_answers 6 v_theTold_answers, aI cI a_theTold_weekdays 6 v_theTold_weekdays] sz) o.1 [oX9 a_th q_theText q_theQuestion (.ref a_theCastle) q_now q_theActs (.ref a_theTold) q_foresight q_keptMoments q_isKept (.ref a_marchWorlds) (.long v_theSeed), oX1 a_theCastle (.int v_theCastle_facts) (.int v_theCastle_so) (.int v_theCastle_common) (.int v_theCastle_cases) (.int v_theCastle_firstTrueDay), aI cI a_marchWorlds 7 (o.2), oX7 a_theTold (.ref a_theTold_simples) (.ref a_theTold_weekdays) (.ref a_theTold_answers) (.int v_theTold_count), aI cI a_theTold_simples 6 v_theTold_simples, aI cI a_theTold_answers 6 v_theTold_answers, aI cI a_theTold_weekdays 6 v_theTold_weekdays]) 0 0 (va_A [oX9 a_th q_theText q_theQuestion (.ref a_theCastle) q_now q_theActs (.ref a_theTold) q_foresight q_keptMoments q_isKept (.ref a_marchWorlds) (.long v_theSeed), oX1 a_theCastle (.int v_theCastle_facts) (.int v_theCastle_so) (.int v_theCastle_common) (.int v_theCastle_cases) (.int v_theCastle_firstTrueDay), aI cI a_marchWorlds 7 v_marchWorlds, oX7 a_theTold (.ref a_theTold_simples) (.ref a_theTold_weekdays) (.ref a_theTold_answers) (.int v_theTold_count), aI cI a_theTold_simples 6 v_theTold_simples, aI cI a_theTold_answers 6 v_theTold_answers, aI cI a_theTold_weekdays 6 v_theTold_weekdays] sz) := by
  refine Met.ofW (cc := cX9_march) (maxL := 2) (ret := (some .int)) (by decide) rfl ?_
  intro p e s m args below meth c s₁ B hml hv
  obtain ⟨rfl, hsz, hP, hK, hD0, hG⟩ := hv
  have hx := B.exec
  have hb := B.bytes
  have hr := B.returns
  have hts := atoms_spec (ws := wsX9_march) B.pre
  have hown : s.vm.findClass RX9 = some m.cls := findClass_of_methodNamed B.named
  have hlocks := B.notSynchronized
  subst hsz
  have hD := hD0.self (sz := s.heap.size)
  generalize hAe : va_A [oX9 a_th q_theText q_theQuestion (.ref a_theCastle) q_now q_theActs (.ref a_theTold) q_foresight q_keptMoments q_isKept (.ref a_marchWorlds) (.long v_theSeed), oX1 a_theCastle (.int v_theCastle_facts) (.int v_theCastle_so) (.int v_theCastle_common) (.int v_theCastle_cases) (.int v_theCastle_firstTrueDay), aI cI a_marchWorlds 7 v_marchWorlds, oX7 a_theTold (.ref a_theTold_simples) (.ref a_theTold_weekdays) (.ref a_theTold_answers) (.int v_theTold_count), aI cI a_theTold_simples 6 v_theTold_simples, aI cI a_theTold_answers 6 v_theTold_answers, aI cI a_theTold_weekdays 6 v_theTold_weekdays] s.heap.size = A at hD hG ⊢
  have hA : ∀ q : Nat, s.heap.size ≤ q → A q := fun q h => by rw [← hAe]; exact Or.inr h
  have hS : va_S A s.heap s.heap [] := va_S.rf
  have hl := lv_entry ([.ref a_th, .int p_1]) (n := 2) (Nat.le_of_ble_eq_true rfl)
  rw [lg_entry_eq]
  generalize (lg_sl ([.ref a_th, .int p_1]) ++ List.replicate (2 - (lg_sl ([.ref a_th, .int p_1])).length) Slot.unset).toArray = ls at hl ⊢
  have hl : lv_has ls 2 [(0, .ref a_th), (1, .int p_1)] := hl
  have iX9 : ∀ w ∈ wsX90, w ∈ wsX9_march := fun _ h => List.mem_cons_of_mem _ (List.mem_append_left _ (List.mem_append_left _ (List.mem_append_right _ h)))
  have iX1 : ∀ w ∈ wsX10, w ∈ wsX9_march := fun _ h => List.mem_cons_of_mem _ (List.mem_append_left _ (List.mem_append_right _ h))
  have iX7 : ∀ w ∈ wsX70, w ∈ wsX9_march := fun _ h => List.mem_cons_of_mem _ (List.mem_append_right _ h)
  have f68 := hts (.fieldLink RX9 68 "TrueOnceWeek" "marchWorlds" "[I") (by decide +kernel)
  have f28 := hts (.fieldLink RX9 28 "TrueOnceWeek" "theCastle" "LTrueOnceWeek$Castle;") (by decide +kernel)
  have f75 := va_Nw.use (A := [.ref a_th, .int p_1].toArray) (w := .fieldLinkNest RX9 75 "TrueOnceWeek$Castle" "cases" "I" "TrueOnceWeek") rfl (hG.1 (RX9, 75, "TrueOnceWeek$Castle", "cases", "I") (by decide +kernel))
  have f49 := hts (.fieldLink RX9 49 "TrueOnceWeek" "theTold" "LTrueOnceWeek$Told;") (by decide +kernel)
  refine kb_gen (fun Q hQ => ?_)
  unfold m_X9_march at hm
  refine lv_iload_n hx hb dX9_march_0 rfl (lv_at hl 1 rfl) ?_
  refine lv_if_lt (tgt := 9) hx hb dX9_march_1 (by decide) (fun c1 => ?_) (fun c1 => ?_)
  · replace hm := ite_t c1 hm
    refine lv_bipush (v := (-2 : Int32)) hx hb dX9_march_9 (by decide) ?_
    obtain rfl := Option.some.inj hm
    subst hQ
    exact W.iret hx hb hr (fun t ht hW => ⟨⟨_, (), rfl, rfl, kb_h hP ht⟩, hS.F ht⟩) hS.2.2 dX9_march_11
  · replace hm := ite_f c1 hm
    refine lv_iload_n hx hb dX9_march_4 rfl (lv_at hl 1 rfl) ?_
    refine lv_iconst (v := (3 : Int32)) hx hb dX9_march_5 (by decide) ?_
    refine lv_icmp_le (tgt := 12) hx hb dX9_march_6 (by decide) (fun c2 => ?_) (fun c2 => ?_)
    · replace hm := ite_t c2 hm
      refine lv_aload_n hx hb dX9_march_12 rfl (lv_at hl 0 rfl) ?_
      refine va_get (D := (dC, dI)) (ci := 7) (v := .ref a_marchWorlds) (C := RX9) (T := TX9) (N := 11) hx hb hts iX9 hown hK hP 0 rfl rfl 9 (by decide) f68 (fun _ h9 => h9) rfl dX9_march_13 ?_
      refine lv_aload_n hx hb dX9_march_16 rfl (lv_at hl 0 rfl) ?_
      refine va_get (D := (dC, dI)) (ci := 7) (v := .ref a_theCastle) (C := RX9) (T := TX9) (N := 11) hx hb hts iX9 hown hK hP 0 rfl rfl 2 (by decide) f28 (fun _ h9 => h9) rfl dX9_march_17 ?_
      refine va_getN (D := (dC, dI)) (ci := 1) (v := .int v_theCastle_cases) (C := RX1) (T := TX1) (N := 5) hx hb hts iX1 hown hK hP 1 rfl rfl 3 (by decide) f75 (fun _ h9 => h9) rfl dX9_march_20 ?_
      obtain ⟨w3, ho4, hm⟩ := bd1_s hm
      refine kb_callv (va_runS (As := [.ref a_marchWorlds, .int v_theCastle_cases]) (rest := []) ⟨hx, hb, hml, hown, hts⟩ (c_X8_fill l dC dI cI cJ cZ cQ t s.heap.size a_marchWorlds 7 v_marchWorlds v_theCastle_cases (w3) ho4) (va_cwS 2 hts gX9_march_X8_fill rfl rfl rfl (by decide +kernel) ⟨(Nat.le_of_ble_eq_true rfl), (Nat.le_of_ble_eq_true rfl)⟩) (kb_pre hK hG hP (kb_D hD rfl) hS hA [2] rfl (by decide)) rfl rfl hl.1 rfl (lv_room (Nat.le_of_ble_eq_true rfl)) dX9_march_23 ⟨Nat.zero_le _, Nat.zero_le _⟩) hP (kb_D hD rfl) hS hA [2] rfl [(false, 0), (false, 1), (true, 0), (false, 3), (false, 4), (false, 5), (false, 6)] (w2 := [oX9 a_th q_theText q_theQuestion (.ref a_theCastle) q_now q_theActs (.ref a_theTold) q_foresight q_keptMoments q_isKept (.ref a_marchWorlds) (.long v_theSeed), oX1 a_theCastle (.int v_theCastle_facts) (.int v_theCastle_so) (.int v_theCastle_common) (.int v_theCastle_cases) (.int v_theCastle_firstTrueDay), aI cI a_marchWorlds 7 w3, oX7 a_theTold (.ref a_theTold_simples) (.ref a_theTold_weekdays) (.ref a_theTold_answers) (.int v_theTold_count), aI cI a_theTold_simples 6 v_theTold_simples, aI cI a_theTold_answers 6 v_theTold_answers, aI cI a_theTold_weekdays 6 v_theTold_weekdays]) rfl (by decide) (fun H locs hP hS => ?_)
      refine lv_aload_n hx hb dX9_march_26 rfl (lv_at hl 0 rfl) ?_
      refine va_get (D := (dC, dI)) (ci := 7) (v := .ref a_theTold) (C := RX9) (T := TX9) (N := 11) hx hb hts iX9 hown hK hP 0 rfl rfl 5 (by decide) f49 (fun _ h9 => h9) rfl dX9_march_27 ?_
      refine lv_aload_n hx hb dX9_march_30 rfl (lv_at hl 0 rfl) ?_
      refine va_get (D := (dC, dI)) (ci := 7) (v := .ref a_marchWorlds) (C := RX9) (T := TX9) (N := 11) hx hb hts iX9 hown hK hP 0 rfl rfl 9 (by decide) f68 (fun _ h9 => h9) rfl dX9_march_31 ?_
      refine lv_aload_n hx hb dX9_march_34 rfl (lv_at hl 0 rfl) ?_
      refine va_get (D := (dC, dI)) (ci := 7) (v := .ref a_theCastle) (C := RX9) (T := TX9) (N := 11) hx hb hts iX9 hown hK hP 0 rfl rfl 2 (by decide) f28 (fun _ h9 => h9) rfl dX9_march_35 ?_
      obtain ⟨w5, ho6, hm⟩ := bd1_s hm
      refine kb_callv (va_runV (As := [.ref a_marchWorlds, .ref a_theCastle]) (rest := []) ⟨hx, hb, hml, hown, hts⟩ (c_X7_narrow l dC dI cI cJ cZ cQ t H.size a_theTold a_theTold_simples a_theCastle a_theTold_answers a_theTold_weekdays a_marchWorlds 7 v_theTold_count v_theTold_simples v_theCastle_facts v_theCastle_so v_theCastle_common v_theCastle_cases v_theCastle_firstTrueDay v_theTold_answers v_theTold_weekdays w3 (w5) ho6) (cwV 2 hts gX9_march_X7_narrow rfl rfl rfl (by decide +kernel) ⟨(Nat.le_of_ble_eq_true rfl), (Nat.le_of_ble_eq_true rfl)⟩) ⟨(kb_pre hK hG hP (kb_D hD rfl) hS hA [3, 4, 1, 5, 6, 2] rfl (by decide)).1, (va_recv hK hP (ci := 6) (q0 := 3) rfl rfl), (kb_pre hK hG hP (kb_D hD rfl) hS hA [3, 4, 1, 5, 6, 2] rfl (by decide)).2⟩ rfl rfl hl.1 rfl (lv_room (Nat.le_of_ble_eq_true rfl)) dX9_march_38 ⟨Nat.zero_le _, Nat.zero_le _⟩) hP (kb_D hD rfl) hS hA [3, 4, 1, 5, 6, 2] rfl [(false, 0), (true, 2), (true, 5), (true, 0), (true, 1), (true, 3), (true, 4)] (w2 := [oX9 a_th q_theText q_theQuestion (.ref a_theCastle) q_now q_theActs (.ref a_theTold) q_foresight q_keptMoments q_isKept (.ref a_marchWorlds) (.long v_theSeed), oX1 a_theCastle (.int v_theCastle_facts) (.int v_theCastle_so) (.int v_theCastle_common) (.int v_theCastle_cases) (.int v_theCastle_firstTrueDay), aI cI a_marchWorlds 7 w5, oX7 a_theTold (.ref a_theTold_simples) (.ref a_theTold_weekdays) (.ref a_theTold_answers) (.int v_theTold_count), aI cI a_theTold_simples 6 v_theTold_simples, aI cI a_theTold_answers 6 v_theTold_answers, aI cI a_theTold_weekdays 6 v_theTold_weekdays]) rfl (by decide) (fun H locs hP hS => ?_)
      refine lv_iload_n hx hb dX9_march_41 rfl (lv_at hl 1 rfl) ?_
      rcases Decidable.em (p_1 = (0 : Int32)) with c7 | c7
      · replace hm := ite_t c7 hm
        refine lv_lookup (off := 26) (tgt := 68) hx hb dX9_march_42 (by decide) (by first | (rw [c7]; done) | (rw [c7]; rfl)) (by decide) ?_
        refine lv_aload_n hx hb dX9_march_68 rfl (lv_at hl 0 rfl) ?_
        refine va_get (D := (dC, dI)) (ci := 7) (v := .ref a_marchWorlds) (C := RX9) (T := TX9) (N := 11) hx hb hts iX9 hown hK hP 0 rfl rfl 9 (by decide) f68 (fun _ h9 => h9) rfl dX9_march_69 ?_
        obtain ⟨r8, ho9, hm⟩ := bd1_s hm
        refine kb_calli (Rv := r8) (va_runS (As := [.ref a_marchWorlds]) (rest := []) ⟨hx, hb, hml, hown, hts⟩ (c_X8_count l dC dI cI cJ cZ cQ t H.size a_marchWorlds 7 w5 (r8) ho9) (va_cwS 1 hts gX9_march_X8_count rfl rfl rfl (by decide +kernel) ⟨(Nat.le_of_ble_eq_true rfl), (Nat.le_of_ble_eq_true rfl)⟩) (kb_pre hK hG hP (kb_D hD rfl) hS hA [2] rfl (by decide)) rfl rfl hl.1 rfl (lv_room (Nat.le_of_ble_eq_true rfl)) dX9_march_72 ⟨Nat.zero_le _, Nat.zero_le _⟩) hP (kb_D hD rfl) hS hA [2] rfl [(false, 0), (false, 1), (true, 0), (false, 3), (false, 4), (false, 5), (false, 6)] (w2 := [oX9 a_th q_theText q_theQuestion (.ref a_theCastle) q_now q_theActs (.ref a_theTold) q_foresight q_keptMoments q_isKept (.ref a_marchWorlds) (.long v_theSeed), oX1 a_theCastle (.int v_theCastle_facts) (.int v_theCastle_so) (.int v_theCastle_common) (.int v_theCastle_cases) (.int v_theCastle_firstTrueDay), aI cI a_marchWorlds 7 w5, oX7 a_theTold (.ref a_theTold_simples) (.ref a_theTold_weekdays) (.ref a_theTold_answers) (.int v_theTold_count), aI cI a_theTold_simples 6 v_theTold_simples, aI cI a_theTold_answers 6 v_theTold_answers, aI cI a_theTold_weekdays 6 v_theTold_weekdays]) rfl (by decide) (fun H locs hP hS => ?_)
        obtain rfl := Option.some.inj hm
        subst hQ
        exact W.iret hx hb hr (fun t ht hW => ⟨⟨_, (), rfl, rfl, kb_h hP ht⟩, hS.F ht⟩) hS.2.2 dX9_march_75
      replace hm := ite_f c7 hm
      rcases Decidable.em (p_1 = (1 : Int32)) with c10 | c10
      · replace hm := ite_t c10 hm
        refine lv_lookup (off := 34) (tgt := 76) hx hb dX9_march_42 (by decide) (by first | (rw [c10]; done) | (rw [c10]; rfl)) (by decide) ?_
        refine lv_aload_n hx hb dX9_march_76 rfl (lv_at hl 0 rfl) ?_
        refine va_get (D := (dC, dI)) (ci := 7) (v := .ref a_marchWorlds) (C := RX9) (T := TX9) (N := 11) hx hb hts iX9 hown hK hP 0 rfl rfl 9 (by decide) f68 (fun _ h9 => h9) rfl dX9_march_77 ?_
        obtain ⟨r11, ho12, hm⟩ := bd1_s hm
        refine kb_calli (Rv := r11) (va_runS (As := [.ref a_marchWorlds]) (rest := []) ⟨hx, hb, hml, hown, hts⟩ (c_X8_trueDays l dC dI cI cJ cZ cQ t H.size a_marchWorlds 7 w5 (r11) ho12) (va_cwS 1 hts gX9_march_X8_trueDays rfl rfl rfl (by decide +kernel) ⟨(Nat.le_of_ble_eq_true rfl), (Nat.le_of_ble_eq_true rfl)⟩) (kb_pre hK hG hP (kb_D hD rfl) hS hA [2] rfl (by decide)) rfl rfl hl.1 rfl (lv_room (Nat.le_of_ble_eq_true rfl)) dX9_march_80 ⟨Nat.zero_le _, Nat.zero_le _⟩) hP (kb_D hD rfl) hS hA [2] rfl [(false, 0), (false, 1), (true, 0), (false, 3), (false, 4), (false, 5), (false, 6)] (w2 := [oX9 a_th q_theText q_theQuestion (.ref a_theCastle) q_now q_theActs (.ref a_theTold) q_foresight q_keptMoments q_isKept (.ref a_marchWorlds) (.long v_theSeed), oX1 a_theCastle (.int v_theCastle_facts) (.int v_theCastle_so) (.int v_theCastle_common) (.int v_theCastle_cases) (.int v_theCastle_firstTrueDay), aI cI a_marchWorlds 7 w5, oX7 a_theTold (.ref a_theTold_simples) (.ref a_theTold_weekdays) (.ref a_theTold_answers) (.int v_theTold_count), aI cI a_theTold_simples 6 v_theTold_simples, aI cI a_theTold_answers 6 v_theTold_answers, aI cI a_theTold_weekdays 6 v_theTold_weekdays]) rfl (by decide) (fun H locs hP hS => ?_)
        obtain rfl := Option.some.inj hm
        subst hQ
        exact W.iret hx hb hr (fun t ht hW => ⟨⟨_, (), rfl, rfl, kb_h hP ht⟩, hS.F ht⟩) hS.2.2 dX9_march_83
      replace hm := ite_f c10 hm
      refine lv_lookup (off := 42) (tgt := 84) hx hb dX9_march_42 (by decide) ((lv_osw c7 (by decide)).trans ((lv_osw c10 (by decide)).trans rfl)) (by decide) ?_
      refine lv_aload_n hx hb dX9_march_84 rfl (lv_at hl 0 rfl) ?_
      refine lv_iload_n hx hb dX9_march_85 rfl (lv_at hl 1 rfl) ?_
      refine lv_iconst (v := (2 : Int32)) hx hb dX9_march_86 (by decide) ?_
      obtain ⟨k95, ek95, hm⟩ := nm_s hm
      have J95 : ∀ (x13 : Int32) (H : Heap) (locs : List Loc) (ls : Array Slot), k95 x13 = some o → va_P (dC, dI) vwCl [oX9 a_th q_theText q_theQuestion (.ref a_theCastle) q_now q_theActs (.ref a_theTold) q_foresight q_keptMoments q_isKept (.ref a_marchWorlds) (.long v_theSeed), oX1 a_theCastle (.int v_theCastle_facts) (.int v_theCastle_so) (.int v_theCastle_common) (.int v_theCastle_cases) (.int v_theCastle_firstTrueDay), aI cI a_marchWorlds 7 w5, oX7 a_theTold (.ref a_theTold_simples) (.ref a_theTold_weekdays) (.ref a_theTold_answers) (.int v_theTold_count), aI cI a_theTold_simples 6 v_theTold_simples, aI cI a_theTold_answers 6 v_theTold_answers, aI cI a_theTold_weekdays 6 v_theTold_weekdays] H → va_S A s.heap H locs → lv_has ls 2 [] → W p l e (headSpec wsX9_march { frames := 5, cells := 0, slots := 0, locals := 117 }).room s m [.ref a_th, .int p_1].toArray below meth c H locs 0 0 Q (F0 m 95 ls [.int x13, .ref a_th]) := by
        intro x13 H locs ls hm hP hS hl
        rw [ek95] at hm
        obtain ⟨r14, ho15, hm⟩ := bd1_s hm
        refine kb_calli (Rv := r14) (va_runV (As := [.int x13]) (rest := []) ⟨hx, hb, hml, hown, hts⟩ (c_X9_factsOfMarch l dC dI cI cJ cZ cQ t H.size a_th a_marchWorlds a_theCastle q_theText q_theQuestion q_now q_theActs (.ref a_theTold) q_foresight q_keptMoments q_isKept v_theSeed w5 v_theCastle_facts v_theCastle_so v_theCastle_common v_theCastle_cases v_theCastle_firstTrueDay x13 (r14) ho15) (cwV 1 hts gX9_march_X9_factsOfMarch rfl rfl rfl (by decide +kernel) ⟨(Nat.le_of_ble_eq_true rfl), (Nat.le_of_ble_eq_true rfl)⟩) ⟨(kb_pre hK hG hP (kb_D hD rfl) hS hA [0, 2, 1] rfl (by decide)).1, (va_recv hK hP (ci := 7) (q0 := 0) rfl rfl), (kb_pre hK hG hP (kb_D hD rfl) hS hA [0, 2, 1] rfl (by decide)).2⟩ rfl rfl hl.1 rfl (lv_room (Nat.le_of_ble_eq_true rfl)) dX9_march_95 ⟨Nat.zero_le _, Nat.zero_le _⟩) hP (kb_D hD rfl) hS hA [0, 2, 1] rfl [(true, 0), (true, 2), (true, 1), (false, 3), (false, 4), (false, 5), (false, 6)] (w2 := [oX9 a_th q_theText q_theQuestion (.ref a_theCastle) q_now q_theActs (.ref a_theTold) q_foresight q_keptMoments q_isKept (.ref a_marchWorlds) (.long v_theSeed), oX1 a_theCastle (.int v_theCastle_facts) (.int v_theCastle_so) (.int v_theCastle_common) (.int v_theCastle_cases) (.int v_theCastle_firstTrueDay), aI cI a_marchWorlds 7 w5, oX7 a_theTold (.ref a_theTold_simples) (.ref a_theTold_weekdays) (.ref a_theTold_answers) (.int v_theTold_count), aI cI a_theTold_simples 6 v_theTold_simples, aI cI a_theTold_answers 6 v_theTold_answers, aI cI a_theTold_weekdays 6 v_theTold_weekdays]) rfl (by decide) (fun H locs hP hS => ?_)
        obtain rfl := Option.some.inj hm
        subst hQ
        exact W.iret hx hb hr (fun t ht hW => ⟨⟨_, (), rfl, rfl, kb_h hP ht⟩, hS.F ht⟩) hS.2.2 dX9_march_98
      refine lv_icmp_ne (tgt := 94) hx hb dX9_march_87 (by decide) (fun c16 => ?_) (fun c16 => ?_)
      · replace hm := ite_f c16 hm
        refine lv_iconst (v := (0 : Int32)) hx hb dX9_march_94 (by decide) ?_
        exact J95 (0 : Int32) _ _ _ hm hP hS (lv_sub hl [] rfl)
      · replace hm := ite_t c16 hm
        refine lv_iconst (v := (1 : Int32)) hx hb dX9_march_90 (by decide) ?_
        refine lv_goto (tgt := 95) hx hb dX9_march_91 (by decide) ?_
        exact J95 (1 : Int32) _ _ _ hm hP hS (lv_sub hl [] rfl)
    · replace hm := ite_f c2 hm
      refine lv_bipush (v := (-2 : Int32)) hx hb dX9_march_9 (by decide) ?_
      obtain rfl := Option.some.inj hm
      subst hQ
      exact W.iret hx hb hr (fun t ht hW => ⟨⟨_, (), rfl, rfl, kb_h hP ht⟩, hS.F ht⟩) hS.2.2 dX9_march_11
set_option maxHeartbeats 4000000 in
set_option maxRecDepth 100000 in
theorem c_X8_countWithFact (l : Launch) (dC : Nat → ClassId) (dI : Nat → Nat → Nat) (cI cJ cZ cQ : ClassId) (t sz : Nat) (a_p0 : Nat) (n_p0 : Nat) (v_p0 : (Nat → Int32)) (p_1 : Int32) (o : Int32) (hm : m_X8_countWithFact p_1 n_p0 v_p0 = some o) : Met l yX8_countWithFact wsX8_countWithFact { frames := 1, cells := 0, slots := 0, locals := 20 } (va_Pc [.ref a_p0, .int p_1] (cP (dC, dI) (kT cI cJ cZ cQ) t sz [aI cI a_p0 n_p0 v_p0])) (cQi (dC, dI) (va_A [aI cI a_p0 n_p0 v_p0] sz) o [aI cI a_p0 n_p0 v_p0]) 0 0 (va_A [aI cI a_p0 n_p0 v_p0] sz) := by
  refine Met.ofW (cc := cX8_countWithFact) (maxL := 7) (ret := (some .int)) (by decide) rfl ?_
  intro p e s m args below meth c s₁ B hml hv
  obtain ⟨rfl, hsz, hP, hK, hD0, hG⟩ := hv
  have hx := B.exec
  have hb := B.bytes
  have hr := B.returns
  have hts := atoms_spec (ws := wsX8_countWithFact) B.pre
  have hown : s.vm.findClass RX8 = some m.cls := findClass_of_methodNamed B.named
  have hlocks := B.notSynchronized
  subst hsz
  have hD := hD0.self (sz := s.heap.size)
  generalize hAe : va_A [aI cI a_p0 n_p0 v_p0] s.heap.size = A at hD hG ⊢
  have hA : ∀ q : Nat, s.heap.size ≤ q → A q := fun q h => by rw [← hAe]; exact Or.inr h
  have hS : va_S A s.heap s.heap [] := va_S.rf
  have hl := lv_entry ([.ref a_p0, .int p_1]) (n := 7) (Nat.le_of_ble_eq_true rfl)
  rw [lg_entry_eq]
  generalize (lg_sl ([.ref a_p0, .int p_1]) ++ List.replicate (7 - (lg_sl ([.ref a_p0, .int p_1])).length) Slot.unset).toArray = ls at hl ⊢
  have hl : lv_has ls 7 [(0, .ref a_p0), (1, .int p_1)] := hl
  have nl15 := (hG.2.1 (RX8, 15, yX9_casesWithFact) (by decide +kernel) : va_Nw (.methodLinkNest RX8 15 yX9_casesWithFact "TrueOnceWeek") s)
  have ni15 := hts (.initialized RX9) (by decide +kernel)
  have ns15 := hts (.static yX9_casesWithFact) (by decide +kernel)
  refine kb_gen (fun Q hQ => ?_)
  unfold m_X8_countWithFact at hm
  refine lv_iconst (v := (0 : Int32)) hx hb dX8_countWithFact_0 (by decide) ?_
  refine lv_istore_n (lv' := [(2, .int (0 : Int32)), (0, .ref a_p0), (1, .int p_1)]) hx hb dX8_countWithFact_1 rfl hl (by decide) rfl (fun ls hl => ?_)
  refine lv_aload_n hx hb dX8_countWithFact_2 rfl (lv_at hl 1 rfl) ?_
  refine lv_astore_n (lv' := [(3, .ref a_p0), (2, .int (0 : Int32)), (0, .ref a_p0), (1, .int p_1)]) hx hb dX8_countWithFact_3 rfl hl (by decide) rfl (fun ls hl => ?_)
  refine lv_aload_n hx hb dX8_countWithFact_4 rfl (lv_at hl 0 rfl) ?_
  refine va_alen (v := (Int32.ofNat n_p0)) hx hb hK hP 0 0 rfl rfl rfl dX8_countWithFact_5 ?_
  refine lv_topi (fun x1 ex1 => ?_)
  replace hm := nm_t ex1 hm
  refine lv_istore (lv' := [(4, .int x1), (3, .ref a_p0), (2, .int (0 : Int32)), (0, .ref a_p0), (1, .int p_1)]) hx hb dX8_countWithFact_6 hl (by decide) rfl (fun ls hl => ?_)
  refine lv_iconst (v := (0 : Int32)) hx hb dX8_countWithFact_8 (by decide) ?_
  refine lv_istore (lv' := [(5, .int (0 : Int32)), (4, .int x1), (3, .ref a_p0), (2, .int (0 : Int32)), (0, .ref a_p0), (1, .int p_1)]) hx hb dX8_countWithFact_9 hl (by decide) rfl (fun ls hl => ?_)
  have lp11 : ∀ (n11 : Nat) (x2 : Int32) (x3 : Int32) (k11 : Int32 → Option (Int32)) (H : Heap) (locs : List Loc) (ls : Array Slot), L_X8_countWithFact_11 v_p0 p_1 n_p0 x1 n11 x2 x3 k11 = some o → (∀ (x4 : Int32) (H : Heap) (locs : List Loc) (ls : Array Slot), k11 x4 = some o → va_P (dC, dI) vwCl [aI cI a_p0 n_p0 v_p0] H → va_S A s.heap H locs → lv_has ls 7 [(2, .int x4)] → W p l e (headSpec wsX8_countWithFact { frames := 1, cells := 0, slots := 0, locals := 20 }).room s m [.ref a_p0, .int p_1].toArray below meth c H locs 0 0 Q (F0 m 43 ls [])) → va_P (dC, dI) vwCl [aI cI a_p0 n_p0 v_p0] H → va_S A s.heap H locs → lv_has ls 7 [(1, .int p_1), (2, .int x2), (3, .ref a_p0), (4, .int x1), (5, .int x3)] → W p l e (headSpec wsX8_countWithFact { frames := 1, cells := 0, slots := 0, locals := 20 }).room s m [.ref a_p0, .int p_1].toArray below meth c H locs 0 0 Q (F0 m 11 ls []) := by
    intro n11
    induction n11 with
    | zero =>
      intro x2 x3 k11 H locs ls hm
      cases (show (none : Option (Int32)) = some o from hm)
    | succ n11 ih11 =>
      intro x2 x3 k11 H locs ls hm hk11 hP hS hl
      rw [L_X8_countWithFact_11.eq_2] at hm
      refine lv_iload hx hb dX8_countWithFact_11 (lv_at hl 4 rfl) ?_
      refine lv_iload hx hb dX8_countWithFact_13 (lv_at hl 3 rfl) ?_
      refine lv_icmp_ge (tgt := 43) hx hb dX8_countWithFact_15 (by decide) (fun c5 => ?_) (fun c5 => ?_)
      · replace hm := ite_t c5 hm
        exact hk11 x2 _ _ _ hm hP hS (lv_sub hl [1] rfl)
      · replace hm := ite_f c5 hm
        refine lv_aload_n hx hb dX8_countWithFact_18 rfl (lv_at hl 2 rfl) ?_
        refine lv_iload hx hb dX8_countWithFact_19 (lv_at hl 4 rfl) ?_
        obtain ⟨h6, hm⟩ := gd_s hm
        refine va_iald hx hb hK hP 0 0 rfl rfl (inB_s h6) dX8_countWithFact_21 ?_
        refine lv_topi (fun x7 ex7 => ?_)
        replace hm := nm_t ex7 hm
        refine lv_istore (lv' := [(6, .int x7), (1, .int p_1), (2, .int x2), (3, .ref a_p0), (4, .int x1), (5, .int x3)]) hx hb dX8_countWithFact_22 hl (by decide) rfl (fun ls hl => ?_)
        refine lv_iload_n hx hb dX8_countWithFact_24 rfl (lv_at hl 2 rfl) ?_
        refine lv_iload hx hb dX8_countWithFact_25 (lv_at hl 0 rfl) ?_
        refine lv_iload_n hx hb dX8_countWithFact_27 rfl (lv_at hl 1 rfl) ?_
        obtain ⟨r8, ho9, hm⟩ := bd1_s hm
        refine kb_calli (Rv := r8) (va_runSN (As := [.int p_1]) (rest := [.int x7, .int x2]) ⟨hx, hb, hml, hown, hts⟩ (c_X9_casesWithFact l dC dI cI cJ cZ cQ t H.size p_1 (r8) ho9) ⟨va_cnB (ret := (some .int)) (maxL := 1) 1 hts gX8_countWithFact_X9_casesWithFact_n15 rfl rfl rfl nl15 ni15 (by decide +kernel) ⟨(Nat.le_of_ble_eq_true rfl), (Nat.le_of_ble_eq_true rfl)⟩, ns15, trivial⟩ (kb_pre hK hG hP (kb_D hD rfl) hS hA [] rfl (by decide)) rfl rfl hl.1 rfl (lv_room (Nat.le_of_ble_eq_true rfl)) dX8_countWithFact_28 ⟨Nat.zero_le _, Nat.zero_le _⟩) hP (kb_D hD rfl) hS hA [] rfl [(false, 0)] (w2 := [aI cI a_p0 n_p0 v_p0]) rfl (by decide) (fun H locs hP hS => ?_)
        refine lv_iand hx hb dX8_countWithFact_31 ?_
        obtain ⟨r10, ho11, hm⟩ := bd1_s hm
        refine kb_calli (Rv := r10) (va_runS (As := [.int (x7 &&& r8)]) (rest := [.int x2]) ⟨hx, hb, hml, hown, hts⟩ (c_J6_bitCount_0f7a4 l dC dI cI cJ cZ cQ t H.size (x7 &&& r8) (r10) ho11) (va_cwS 1 hts gX8_countWithFact_J6_bitCount_0f7a4 rfl rfl rfl (by decide +kernel) ⟨(Nat.le_of_ble_eq_true rfl), (Nat.le_of_ble_eq_true rfl)⟩) (kb_pre hK hG hP (kb_D hD rfl) hS hA [] rfl (by decide)) rfl rfl hl.1 rfl (lv_room (Nat.le_of_ble_eq_true rfl)) dX8_countWithFact_32 ⟨Nat.zero_le _, Nat.zero_le _⟩) hP (kb_D hD rfl) hS hA [] rfl [(false, 0)] (w2 := [aI cI a_p0 n_p0 v_p0]) rfl (by decide) (fun H locs hP hS => ?_)
        refine lv_iadd hx hb dX8_countWithFact_35 ?_
        refine lv_topi (fun x12 ex12 => ?_)
        replace hm := nm_t ex12 hm
        refine lv_istore_n (lv' := [(2, .int x12), (6, .int x7), (1, .int p_1), (3, .ref a_p0), (4, .int x1), (5, .int x3)]) hx hb dX8_countWithFact_36 rfl hl (by decide) rfl (fun ls hl => ?_)
        obtain ⟨x13, ex13⟩ : ∃ y : Int32, y = x3 + (1 : Int32) := ⟨_, rfl⟩
        replace hm := nm_t ex13 hm
        refine lv_iinc (v := x13) (lv' := [(5, .int x13), (2, .int x12), (6, .int x7), (1, .int p_1), (3, .ref a_p0), (4, .int x1)]) hx hb dX8_countWithFact_37 hl (k := 5) rfl (by rw [ex13]; rfl) (by decide) rfl (fun ls hl => ?_)
        refine lv_goto (tgt := 11) hx hb dX8_countWithFact_40 (by decide) ?_
        exact ih11 x12 x13 k11 _ _ _ hm hk11 hP hS (lv_sub hl [3, 1, 4, 5, 0] rfl)
  refine lp11 1024 (0 : Int32) (0 : Int32) _ _ _ _ hm (fun x4 H locs ls hm hP hS hl => ?_) hP hS (lv_sub hl [5, 3, 2, 1, 0] rfl)
  refine lv_iload_n hx hb dX8_countWithFact_43 rfl (lv_at hl 0 rfl) ?_
  obtain rfl := Option.some.inj hm
  subst hQ
  exact W.iret hx hb hr (fun t ht hW => ⟨⟨_, (), rfl, rfl, kb_h hP ht⟩, hS.F ht⟩) hS.2.2 dX8_countWithFact_44
set_option maxHeartbeats 4000000 in
set_option maxRecDepth 100000 in
theorem c_X9_greatestDivisor (l : Launch) (dC : Nat → ClassId) (dI : Nat → Nat → Nat) (cI cJ cZ cQ : ClassId) (t sz : Nat) (p_0 : Int32) (p_1 : Int32) (o : Int32) (hm : m_X9_greatestDivisor p_0 p_1 = some o) : Met l yX9_greatestDivisor wsX9_greatestDivisor { frames := 0, cells := 0, slots := 0, locals := 0 } (va_Pc [.int p_0, .int p_1] (cP (dC, dI) (kT cI cJ cZ cQ) t sz [])) (cQi (dC, dI) (va_A [] sz) o []) 0 0 (va_A [] sz) := by
  refine Met.ofW (cc := cX9_greatestDivisor) (maxL := 3) (ret := (some .int)) (by decide) rfl ?_
  intro p e s m args below meth c s₁ B hml hv
  obtain ⟨rfl, hsz, hP, hK, hD0, hG⟩ := hv
  have hx := B.exec
  have hb := B.bytes
  have hr := B.returns
  have hts := atoms_spec (ws := wsX9_greatestDivisor) B.pre
  have hown : s.vm.findClass RX9 = some m.cls := findClass_of_methodNamed B.named
  have hlocks := B.notSynchronized
  subst hsz
  have hD := hD0.self (sz := s.heap.size)
  generalize hAe : va_A [] s.heap.size = A at hD hG ⊢
  have hA : ∀ q : Nat, s.heap.size ≤ q → A q := fun q h => by rw [← hAe]; exact Or.inr h
  have hS : va_S A s.heap s.heap [] := va_S.rf
  have hl := lv_entry ([.int p_0, .int p_1]) (n := 3) (Nat.le_of_ble_eq_true rfl)
  rw [lg_entry_eq]
  generalize (lg_sl ([.int p_0, .int p_1]) ++ List.replicate (3 - (lg_sl ([.int p_0, .int p_1])).length) Slot.unset).toArray = ls at hl ⊢
  have hl : lv_has ls 3 [(0, .int p_0), (1, .int p_1)] := hl
  refine kb_gen (fun Q hQ => ?_)
  unfold m_X9_greatestDivisor at hm
  refine lv_iload_n hx hb dX9_greatestDivisor_0 rfl (lv_at hl 1 rfl) ?_
  refine lv_istore_n (lv' := [(2, .int p_1), (0, .int p_0), (1, .int p_1)]) hx hb dX9_greatestDivisor_1 rfl hl (by decide) rfl (fun ls hl => ?_)
  have lp2 : ∀ (n2 : Nat) (x1 : Int32) (k2 : Option (Int32)) (H : Heap) (locs : List Loc) (ls : Array Slot), L_X9_greatestDivisor_2 p_0 p_1 n2 x1 k2 = some o → (∀ (H : Heap) (locs : List Loc) (ls : Array Slot), k2 = some o → va_P (dC, dI) vwCl [] H → va_S A s.heap H locs → lv_has ls 3 [] → W p l e (headSpec wsX9_greatestDivisor { frames := 0, cells := 0, slots := 0, locals := 0 }).room s m [.int p_0, .int p_1].toArray below meth c H locs 0 0 Q (F0 m 27 ls [])) → va_P (dC, dI) vwCl [] H → va_S A s.heap H locs → lv_has ls 3 [(0, .int p_0), (1, .int p_1), (2, .int x1)] → W p l e (headSpec wsX9_greatestDivisor { frames := 0, cells := 0, slots := 0, locals := 0 }).room s m [.int p_0, .int p_1].toArray below meth c H locs 0 0 Q (F0 m 2 ls []) := by
    intro n2
    induction n2 with
    | zero =>
      intro x1 k2 H locs ls hm
      cases (show (none : Option (Int32)) = some o from hm)
    | succ n2 ih2 =>
      intro x1 k2 H locs ls hm hk2 hP hS hl
      rw [L_X9_greatestDivisor_2.eq_2] at hm
      refine lv_iload_n hx hb dX9_greatestDivisor_2 rfl (lv_at hl 2 rfl) ?_
      refine lv_iconst (v := (1 : Int32)) hx hb dX9_greatestDivisor_3 (by decide) ?_
      refine lv_icmp_le (tgt := 27) hx hb dX9_greatestDivisor_4 (by decide) (fun c2 => ?_) (fun c2 => ?_)
      · replace hm := ite_t c2 hm
        exact hk2  _ _ _ hm hP hS (lv_sub hl [] rfl)
      · replace hm := ite_f c2 hm
        refine lv_iload_n hx hb dX9_greatestDivisor_7 rfl (lv_at hl 0 rfl) ?_
        refine lv_iload_n hx hb dX9_greatestDivisor_8 rfl (lv_at hl 2 rfl) ?_
        obtain ⟨h3, hm⟩ := gd_s hm
        refine lv_irem hx hb dX9_greatestDivisor_9 (nzB_s h3) ?_
        obtain ⟨k21, ek21, hm⟩ := nm_s hm
        have J21 : ∀ (H : Heap) (locs : List Loc) (ls : Array Slot), k21 = some o → va_P (dC, dI) vwCl [] H → va_S A s.heap H locs → lv_has ls 3 [(0, .int p_0), (1, .int p_1), (2, .int x1)] → W p l e (headSpec wsX9_greatestDivisor { frames := 0, cells := 0, slots := 0, locals := 0 }).room s m [.int p_0, .int p_1].toArray below meth c H locs 0 0 Q (F0 m 21 ls []) := by
          intro  H locs ls hm hP hS hl
          rw [ek21] at hm
          obtain ⟨x4, ex4⟩ : ∃ y : Int32, y = x1 + (-1 : Int32) := ⟨_, rfl⟩
          replace hm := nm_t ex4 hm
          refine lv_iinc (v := x4) (lv' := [(2, .int x4), (0, .int p_0), (1, .int p_1)]) hx hb dX9_greatestDivisor_21 hl (k := 2) rfl (by rw [ex4]; rfl) (by decide) rfl (fun ls hl => ?_)
          refine lv_goto (tgt := 2) hx hb dX9_greatestDivisor_24 (by decide) ?_
          exact ih2 x4 k2 _ _ _ hm hk2 hP hS (lv_sub hl [1, 2, 0] rfl)
        refine lv_if_ne (tgt := 21) hx hb dX9_greatestDivisor_10 (by decide) (fun c5 => ?_) (fun c5 => ?_)
        · replace hm := ite_f c5 hm
          exact J21  _ _ _ hm hP hS (lv_sub hl [0, 1, 2] rfl)
        · replace hm := ite_t c5 hm
          refine lv_iload_n hx hb dX9_greatestDivisor_13 rfl (lv_at hl 1 rfl) ?_
          refine lv_iload_n hx hb dX9_greatestDivisor_14 rfl (lv_at hl 2 rfl) ?_
          obtain ⟨h6, hm⟩ := gd_s hm
          refine lv_irem hx hb dX9_greatestDivisor_15 (nzB_s h6) ?_
          refine lv_if_ne (tgt := 21) hx hb dX9_greatestDivisor_16 (by decide) (fun c7 => ?_) (fun c7 => ?_)
          · replace hm := ite_f c7 hm
            exact J21  _ _ _ hm hP hS (lv_sub hl [0, 1, 2] rfl)
          · replace hm := ite_t c7 hm
            refine lv_iload_n hx hb dX9_greatestDivisor_19 rfl (lv_at hl 2 rfl) ?_
            obtain rfl := Option.some.inj hm
            subst hQ
            exact W.iret hx hb hr (fun t ht hW => ⟨⟨_, (), rfl, rfl, kb_h hP ht⟩, hS.F ht⟩) hS.2.2 dX9_greatestDivisor_20
  refine lp2 1024 p_1 _ _ _ _ hm (fun  H locs ls hm hP hS hl => ?_) hP hS (lv_sub hl [1, 2, 0] rfl)
  refine lv_iconst (v := (1 : Int32)) hx hb dX9_greatestDivisor_27 (by decide) ?_
  obtain rfl := Option.some.inj hm
  subst hQ
  exact W.iret hx hb hr (fun t ht hW => ⟨⟨_, (), rfl, rfl, kb_h hP ht⟩, hS.F ht⟩) hS.2.2 dX9_greatestDivisor_28
set_option maxHeartbeats 4000000 in
set_option maxRecDepth 100000 in
theorem c_X9_likely (l : Launch) (dC : Nat → ClassId) (dI : Nat → Nat → Nat) (cI cJ cZ cQ : ClassId) (t sz : Nat) (a_th : Nat) (a_theCastle : Nat) (a_now : Nat) (a_now_known : Nat) (q_theText : Value) (q_theQuestion : Value) (q_theActs : Value) (q_theTold : Value) (q_foresight : Value) (q_keptMoments : Value) (q_isKept : Value) (q_marchWorlds : Value) (v_theSeed : Int64) (v_theCastle_facts : Int32) (v_theCastle_so : Int32) (v_theCastle_common : Int32) (v_theCastle_cases : Int32) (v_theCastle_firstTrueDay : Int32) (v_now_date : Int32) (v_now_trueDay : Int32) (v_now_wasAsked : Int32) (v_now_clothState : Int32) (v_now_cracks : Int32) (v_now_known : (Nat → Int32)) (p_1 : Int32) (p_2 : Int32) (o : Int32) (hm : m_X9_likely p_1 p_2 v_theCastle_facts v_now_known = some o) : Met l yX9_likely wsX9_likely { frames := 2, cells := 0, slots := 0, locals := 46 } (va_Pc [.ref a_th, .int p_1, .int p_2] (cP (dC, dI) (kT cI cJ cZ cQ) t sz [oX9 a_th q_theText q_theQuestion (.ref a_theCastle) (.ref a_now) q_theActs q_theTold q_foresight q_keptMoments q_isKept q_marchWorlds (.long v_theSeed), oX1 a_theCastle (.int v_theCastle_facts) (.int v_theCastle_so) (.int v_theCastle_common) (.int v_theCastle_cases) (.int v_theCastle_firstTrueDay), oX4 a_now (.int v_now_date) (.int v_now_trueDay) (.int v_now_wasAsked) (.int v_now_clothState) (.int v_now_cracks) (.ref a_now_known), aI cI a_now_known 7 v_now_known])) (cQi (dC, dI) (va_A [oX9 a_th q_theText q_theQuestion (.ref a_theCastle) (.ref a_now) q_theActs q_theTold q_foresight q_keptMoments q_isKept q_marchWorlds (.long v_theSeed), oX1 a_theCastle (.int v_theCastle_facts) (.int v_theCastle_so) (.int v_theCastle_common) (.int v_theCastle_cases) (.int v_theCastle_firstTrueDay), oX4 a_now (.int v_now_date) (.int v_now_trueDay) (.int v_now_wasAsked) (.int v_now_clothState) (.int v_now_cracks) (.ref a_now_known), aI cI a_now_known 7 v_now_known] sz) o [oX9 a_th q_theText q_theQuestion (.ref a_theCastle) (.ref a_now) q_theActs q_theTold q_foresight q_keptMoments q_isKept q_marchWorlds (.long v_theSeed), oX1 a_theCastle (.int v_theCastle_facts) (.int v_theCastle_so) (.int v_theCastle_common) (.int v_theCastle_cases) (.int v_theCastle_firstTrueDay), oX4 a_now (.int v_now_date) (.int v_now_trueDay) (.int v_now_wasAsked) (.int v_now_clothState) (.int v_now_cracks) (.ref a_now_known), aI cI a_now_known 7 v_now_known]) 0 0 (va_A [oX9 a_th q_theText q_theQuestion (.ref a_theCastle) (.ref a_now) q_theActs q_theTold q_foresight q_keptMoments q_isKept q_marchWorlds (.long v_theSeed), oX1 a_theCastle (.int v_theCastle_facts) (.int v_theCastle_so) (.int v_theCastle_common) (.int v_theCastle_cases) (.int v_theCastle_firstTrueDay), oX4 a_now (.int v_now_date) (.int v_now_trueDay) (.int v_now_wasAsked) (.int v_now_clothState) (.int v_now_cracks) (.ref a_now_known), aI cI a_now_known 7 v_now_known] sz) := by
  refine Met.ofW (cc := cX9_likely) (maxL := 6) (ret := (some .int)) (by decide) rfl ?_
  intro p e s m args below meth c s₁ B hml hv
  obtain ⟨rfl, hsz, hP, hK, hD0, hG⟩ := hv
  have hx := B.exec
  have hb := B.bytes
  have hr := B.returns
  have hts := atoms_spec (ws := wsX9_likely) B.pre
  have hown : s.vm.findClass RX9 = some m.cls := findClass_of_methodNamed B.named
  have hlocks := B.notSynchronized
  subst hsz
  have hD := hD0.self (sz := s.heap.size)
  generalize hAe : va_A [oX9 a_th q_theText q_theQuestion (.ref a_theCastle) (.ref a_now) q_theActs q_theTold q_foresight q_keptMoments q_isKept q_marchWorlds (.long v_theSeed), oX1 a_theCastle (.int v_theCastle_facts) (.int v_theCastle_so) (.int v_theCastle_common) (.int v_theCastle_cases) (.int v_theCastle_firstTrueDay), oX4 a_now (.int v_now_date) (.int v_now_trueDay) (.int v_now_wasAsked) (.int v_now_clothState) (.int v_now_cracks) (.ref a_now_known), aI cI a_now_known 7 v_now_known] s.heap.size = A at hD hG ⊢
  have hA : ∀ q : Nat, s.heap.size ≤ q → A q := fun q h => by rw [← hAe]; exact Or.inr h
  have hS : va_S A s.heap s.heap [] := va_S.rf
  have hl := lv_entry ([.ref a_th, .int p_1, .int p_2]) (n := 6) (Nat.le_of_ble_eq_true rfl)
  rw [lg_entry_eq]
  generalize (lg_sl ([.ref a_th, .int p_1, .int p_2]) ++ List.replicate (6 - (lg_sl ([.ref a_th, .int p_1, .int p_2])).length) Slot.unset).toArray = ls at hl ⊢
  have hl : lv_has ls 6 [(0, .ref a_th), (1, .int p_1), (2, .int p_2)] := hl
  have iX9 : ∀ w ∈ wsX90, w ∈ wsX9_likely := fun _ h => List.mem_cons_of_mem _ (List.mem_append_left _ (List.mem_append_left _ (List.mem_append_right _ h)))
  have iX4 : ∀ w ∈ wsX40, w ∈ wsX9_likely := fun _ h => List.mem_cons_of_mem _ (List.mem_append_left _ (List.mem_append_right _ h))
  have iX1 : ∀ w ∈ wsX10, w ∈ wsX9_likely := fun _ h => List.mem_cons_of_mem _ (List.mem_append_right _ h)
  have f28 := hts (.fieldLink RX9 28 "TrueOnceWeek" "theCastle" "LTrueOnceWeek$Castle;") (by decide +kernel)
  have f35 := hts (.fieldLink RX9 35 "TrueOnceWeek" "now" "LTrueOnceWeek$Moment;") (by decide +kernel)
  have f113 := va_Nw.use (A := [.ref a_th, .int p_1, .int p_2].toArray) (w := .fieldLinkNest RX9 113 "TrueOnceWeek$Moment" "known" "[I" "TrueOnceWeek") rfl (hG.1 (RX9, 113, "TrueOnceWeek$Moment", "known", "[I") (by decide +kernel))
  refine kb_gen (fun Q hQ => ?_)
  unfold m_X9_likely at hm
  refine lv_aload_n hx hb dX9_likely_0 rfl (lv_at hl 0 rfl) ?_
  refine va_get (D := (dC, dI)) (ci := 7) (v := .ref a_theCastle) (C := RX9) (T := TX9) (N := 11) hx hb hts iX9 hown hK hP 0 rfl rfl 2 (by decide) f28 (fun _ h9 => h9) rfl dX9_likely_1 ?_
  refine lv_iload_n hx hb dX9_likely_4 rfl (lv_at hl 1 rfl) ?_
  obtain ⟨r1, ho2, hm⟩ := bd1_s hm
  refine kb_calli (Rv := r1) (va_runV (As := [.int p_1]) (rest := []) ⟨hx, hb, hml, hown, hts⟩ (c_X1_hasFact l dC dI cI cJ cZ cQ t s.heap.size a_theCastle v_theCastle_facts v_theCastle_so v_theCastle_common v_theCastle_cases v_theCastle_firstTrueDay p_1 (r1) ho2) (cwV 1 hts gX9_likely_X1_hasFact rfl rfl rfl (by decide +kernel) ⟨(Nat.le_of_ble_eq_true rfl), (Nat.le_of_ble_eq_true rfl)⟩) ⟨(kb_pre hK hG hP (kb_D hD rfl) hS hA [1] rfl (by decide)).1, (va_recv hK hP (ci := 1) (q0 := 1) rfl rfl), (kb_pre hK hG hP (kb_D hD rfl) hS hA [1] rfl (by decide)).2⟩ rfl rfl hl.1 rfl (lv_room (Nat.le_of_ble_eq_true rfl)) dX9_likely_5 ⟨Nat.zero_le _, Nat.zero_le _⟩) hP (kb_D hD rfl) hS hA [1] rfl [(false, 0), (true, 0), (false, 2), (false, 3)] (w2 := [oX9 a_th q_theText q_theQuestion (.ref a_theCastle) (.ref a_now) q_theActs q_theTold q_foresight q_keptMoments q_isKept q_marchWorlds (.long v_theSeed), oX1 a_theCastle (.int v_theCastle_facts) (.int v_theCastle_so) (.int v_theCastle_common) (.int v_theCastle_cases) (.int v_theCastle_firstTrueDay), oX4 a_now (.int v_now_date) (.int v_now_trueDay) (.int v_now_wasAsked) (.int v_now_clothState) (.int v_now_cracks) (.ref a_now_known), aI cI a_now_known 7 v_now_known]) rfl (by decide) (fun H locs hP hS => ?_)
  obtain ⟨k55, ek55, hm⟩ := nm_s hm
  have J55 : ∀ (x3 : Int32) (H : Heap) (locs : List Loc) (ls : Array Slot), k55 x3 = some o → va_P (dC, dI) vwCl [oX9 a_th q_theText q_theQuestion (.ref a_theCastle) (.ref a_now) q_theActs q_theTold q_foresight q_keptMoments q_isKept q_marchWorlds (.long v_theSeed), oX1 a_theCastle (.int v_theCastle_facts) (.int v_theCastle_so) (.int v_theCastle_common) (.int v_theCastle_cases) (.int v_theCastle_firstTrueDay), oX4 a_now (.int v_now_date) (.int v_now_trueDay) (.int v_now_wasAsked) (.int v_now_clothState) (.int v_now_cracks) (.ref a_now_known), aI cI a_now_known 7 v_now_known] H → va_S A s.heap H locs → lv_has ls 6 [(0, .ref a_th), (2, .int p_2), (3, .int x3)] → W p l e (headSpec wsX9_likely { frames := 2, cells := 0, slots := 0, locals := 46 }).room s m [.ref a_th, .int p_1, .int p_2].toArray below meth c H locs 0 0 Q (F0 m 55 ls []) := by
    intro x3 H locs ls hm hP hS hl
    rw [ek55] at hm
    refine lv_aload_n hx hb dX9_likely_55 rfl (lv_at hl 0 rfl) ?_
    refine va_get (D := (dC, dI)) (ci := 7) (v := .ref a_now) (C := RX9) (T := TX9) (N := 11) hx hb hts iX9 hown hK hP 0 rfl rfl 3 (by decide) f35 (fun _ h9 => h9) rfl dX9_likely_56 ?_
    refine va_getN (D := (dC, dI)) (ci := 4) (v := .ref a_now_known) (C := RX4) (T := TX4) (N := 6) hx hb hts iX4 hown hK hP 2 rfl rfl 5 (by decide) f113 (fun _ h9 => h9) rfl dX9_likely_59 ?_
    obtain ⟨r4, ho5, hm⟩ := bd1_s hm
    refine kb_calli (Rv := r4) (va_runS (As := [.ref a_now_known]) (rest := []) ⟨hx, hb, hml, hown, hts⟩ (c_X8_count l dC dI cI cJ cZ cQ t H.size a_now_known 7 v_now_known (r4) ho5) (va_cwS 1 hts gX9_likely_X8_count rfl rfl rfl (by decide +kernel) ⟨(Nat.le_of_ble_eq_true rfl), (Nat.le_of_ble_eq_true rfl)⟩) (kb_pre hK hG hP (kb_D hD rfl) hS hA [3] rfl (by decide)) rfl rfl hl.1 rfl (lv_room (Nat.le_of_ble_eq_true rfl)) dX9_likely_62 ⟨Nat.zero_le _, Nat.zero_le _⟩) hP (kb_D hD rfl) hS hA [3] rfl [(false, 0), (false, 1), (false, 2), (true, 0)] (w2 := [oX9 a_th q_theText q_theQuestion (.ref a_theCastle) (.ref a_now) q_theActs q_theTold q_foresight q_keptMoments q_isKept q_marchWorlds (.long v_theSeed), oX1 a_theCastle (.int v_theCastle_facts) (.int v_theCastle_so) (.int v_theCastle_common) (.int v_theCastle_cases) (.int v_theCastle_firstTrueDay), oX4 a_now (.int v_now_date) (.int v_now_trueDay) (.int v_now_wasAsked) (.int v_now_clothState) (.int v_now_cracks) (.ref a_now_known), aI cI a_now_known 7 v_now_known]) rfl (by decide) (fun H locs hP hS => ?_)
    refine lv_istore (lv' := [(4, .int r4), (0, .ref a_th), (2, .int p_2), (3, .int x3)]) hx hb dX9_likely_65 hl (by decide) rfl (fun ls hl => ?_)
    refine lv_iload_n hx hb dX9_likely_67 rfl (lv_at hl 3 rfl) ?_
    refine lv_iload hx hb dX9_likely_68 (lv_at hl 0 rfl) ?_
    obtain ⟨r6, ho7, hm⟩ := bd1_s hm
    refine kb_calli (Rv := r6) (va_runS (As := [.int x3, .int r4]) (rest := []) ⟨hx, hb, hml, hown, hts⟩ (c_X9_greatestDivisor l dC dI cI cJ cZ cQ t H.size x3 r4 (r6) ho7) (va_cwS 2 hts gX9_likely_X9_greatestDivisor rfl rfl rfl (by decide +kernel) ⟨(Nat.le_of_ble_eq_true rfl), (Nat.le_of_ble_eq_true rfl)⟩) (kb_pre hK hG hP (kb_D hD rfl) hS hA [] rfl (by decide)) rfl rfl hl.1 rfl (lv_room (Nat.le_of_ble_eq_true rfl)) dX9_likely_70 ⟨Nat.zero_le _, Nat.zero_le _⟩) hP (kb_D hD rfl) hS hA [] rfl [(false, 0), (false, 1), (false, 2), (false, 3)] (w2 := [oX9 a_th q_theText q_theQuestion (.ref a_theCastle) (.ref a_now) q_theActs q_theTold q_foresight q_keptMoments q_isKept q_marchWorlds (.long v_theSeed), oX1 a_theCastle (.int v_theCastle_facts) (.int v_theCastle_so) (.int v_theCastle_common) (.int v_theCastle_cases) (.int v_theCastle_firstTrueDay), oX4 a_now (.int v_now_date) (.int v_now_trueDay) (.int v_now_wasAsked) (.int v_now_clothState) (.int v_now_cracks) (.ref a_now_known), aI cI a_now_known 7 v_now_known]) rfl (by decide) (fun H locs hP hS => ?_)
    refine lv_istore (lv' := [(5, .int r6), (4, .int r4), (0, .ref a_th), (2, .int p_2), (3, .int x3)]) hx hb dX9_likely_73 hl (by decide) rfl (fun ls hl => ?_)
    refine lv_iload_n hx hb dX9_likely_75 rfl (lv_at hl 3 rfl) ?_
    obtain ⟨k85, ek85, hm⟩ := nm_s hm
    have J85 : ∀ (x8 : Int32) (H : Heap) (locs : List Loc) (ls : Array Slot), k85 x8 = some o → va_P (dC, dI) vwCl [oX9 a_th q_theText q_theQuestion (.ref a_theCastle) (.ref a_now) q_theActs q_theTold q_foresight q_keptMoments q_isKept q_marchWorlds (.long v_theSeed), oX1 a_theCastle (.int v_theCastle_facts) (.int v_theCastle_so) (.int v_theCastle_common) (.int v_theCastle_cases) (.int v_theCastle_firstTrueDay), oX4 a_now (.int v_now_date) (.int v_now_trueDay) (.int v_now_wasAsked) (.int v_now_clothState) (.int v_now_cracks) (.ref a_now_known), aI cI a_now_known 7 v_now_known] H → va_S A s.heap H locs → lv_has ls 6 [(5, .int r6)] → W p l e (headSpec wsX9_likely { frames := 2, cells := 0, slots := 0, locals := 46 }).room s m [.ref a_th, .int p_1, .int p_2].toArray below meth c H locs 0 0 Q (F0 m 85 ls [.int x8]) := by
      intro x8 H locs ls hm hP hS hl
      rw [ek85] at hm
      refine lv_iload hx hb dX9_likely_85 (lv_at hl 0 rfl) ?_
      obtain ⟨h9, hm⟩ := gd_s hm
      refine lv_idiv hx hb dX9_likely_87 (nzB_s h9) ?_
      obtain rfl := Option.some.inj hm
      subst hQ
      exact W.iret hx hb hr (fun t ht hW => ⟨⟨_, (), rfl, rfl, kb_h hP ht⟩, hS.F ht⟩) hS.2.2 dX9_likely_88
    refine lv_if_eq (tgt := 83) hx hb dX9_likely_76 (by decide) (fun c10 => ?_) (fun c10 => ?_)
    · replace hm := ite_t c10 hm
      refine lv_iload hx hb dX9_likely_83 (lv_at hl 1 rfl) ?_
      exact J85 r4 _ _ _ hm hP hS (lv_sub hl [0] rfl)
    · replace hm := ite_f c10 hm
      refine lv_iload_n hx hb dX9_likely_79 rfl (lv_at hl 4 rfl) ?_
      refine lv_goto (tgt := 85) hx hb dX9_likely_80 (by decide) ?_
      exact J85 x3 _ _ _ hm hP hS (lv_sub hl [0] rfl)
  refine lv_if_eq (tgt := 26) hx hb dX9_likely_8 (by decide) (fun c11 => ?_) (fun c11 => ?_)
  · replace hm := ite_t c11 hm
    refine lv_iload_n hx hb dX9_likely_26 rfl (lv_at hl 1 rfl) ?_
    obtain ⟨r12, ho13, hm⟩ := bd1_s hm
    refine kb_calli (Rv := r12) (va_runS (As := [.int p_1]) (rest := []) ⟨hx, hb, hml, hown, hts⟩ (c_X6_isOfDay l dC dI cI cJ cZ cQ t H.size p_1 (r12) ho13) (va_cwS 1 hts gX9_likely_X6_isOfDay rfl rfl rfl (by decide +kernel) ⟨(Nat.le_of_ble_eq_true rfl), (Nat.le_of_ble_eq_true rfl)⟩) (kb_pre hK hG hP (kb_D hD rfl) hS hA [] rfl (by decide)) rfl rfl hl.1 rfl (lv_room (Nat.le_of_ble_eq_true rfl)) dX9_likely_27 ⟨Nat.zero_le _, Nat.zero_le _⟩) hP (kb_D hD rfl) hS hA [] rfl [(false, 0), (false, 1), (false, 2), (false, 3)] (w2 := [oX9 a_th q_theText q_theQuestion (.ref a_theCastle) (.ref a_now) q_theActs q_theTold q_foresight q_keptMoments q_isKept q_marchWorlds (.long v_theSeed), oX1 a_theCastle (.int v_theCastle_facts) (.int v_theCastle_so) (.int v_theCastle_common) (.int v_theCastle_cases) (.int v_theCastle_firstTrueDay), oX4 a_now (.int v_now_date) (.int v_now_trueDay) (.int v_now_wasAsked) (.int v_now_clothState) (.int v_now_cracks) (.ref a_now_known), aI cI a_now_known 7 v_now_known]) rfl (by decide) (fun H locs hP hS => ?_)
    refine lv_if_eq (tgt := 52) hx hb dX9_likely_30 (by decide) (fun c14 => ?_) (fun c14 => ?_)
    · replace hm := ite_t c14 hm
      refine lv_bipush (v := (-2 : Int32)) hx hb dX9_likely_52 (by decide) ?_
      obtain rfl := Option.some.inj hm
      subst hQ
      exact W.iret hx hb hr (fun t ht hW => ⟨⟨_, (), rfl, rfl, kb_h hP ht⟩, hS.F ht⟩) hS.2.2 dX9_likely_54
    · replace hm := ite_f c14 hm
      refine lv_aload_n hx hb dX9_likely_33 rfl (lv_at hl 0 rfl) ?_
      refine va_get (D := (dC, dI)) (ci := 7) (v := .ref a_now) (C := RX9) (T := TX9) (N := 11) hx hb hts iX9 hown hK hP 0 rfl rfl 3 (by decide) f35 (fun _ h9 => h9) rfl dX9_likely_34 ?_
      refine va_getN (D := (dC, dI)) (ci := 4) (v := .ref a_now_known) (C := RX4) (T := TX4) (N := 6) hx hb hts iX4 hown hK hP 2 rfl rfl 5 (by decide) f113 (fun _ h9 => h9) rfl dX9_likely_37 ?_
      refine lv_iload_n hx hb dX9_likely_40 rfl (lv_at hl 1 rfl) ?_
      refine lv_bipush (v := (6 : Int32)) hx hb dX9_likely_41 (by decide) ?_
      refine lv_isub hx hb dX9_likely_43 ?_
      obtain ⟨h15, hm⟩ := gd_s hm
      refine va_iald hx hb hK hP 3 0 rfl rfl (inB_s h15) dX9_likely_44 ?_
      obtain ⟨r16, ho17, hm⟩ := bd1_s hm
      refine kb_calli (Rv := r16) (va_runS (As := [.int (v_now_known (Int32.toNatClampNeg (p_1 - (6 : Int32))))]) (rest := []) ⟨hx, hb, hml, hown, hts⟩ (c_J6_bitCount_0f7a4 l dC dI cI cJ cZ cQ t H.size (v_now_known (Int32.toNatClampNeg (p_1 - (6 : Int32)))) (r16) ho17) (va_cwS 1 hts gX9_likely_J6_bitCount_0f7a4 rfl rfl rfl (by decide +kernel) ⟨(Nat.le_of_ble_eq_true rfl), (Nat.le_of_ble_eq_true rfl)⟩) (kb_pre hK hG hP (kb_D hD rfl) hS hA [] rfl (by decide)) rfl rfl hl.1 rfl (lv_room (Nat.le_of_ble_eq_true rfl)) dX9_likely_45 ⟨Nat.zero_le _, Nat.zero_le _⟩) hP (kb_D hD rfl) hS hA [] rfl [(false, 0), (false, 1), (false, 2), (false, 3)] (w2 := [oX9 a_th q_theText q_theQuestion (.ref a_theCastle) (.ref a_now) q_theActs q_theTold q_foresight q_keptMoments q_isKept q_marchWorlds (.long v_theSeed), oX1 a_theCastle (.int v_theCastle_facts) (.int v_theCastle_so) (.int v_theCastle_common) (.int v_theCastle_cases) (.int v_theCastle_firstTrueDay), oX4 a_now (.int v_now_date) (.int v_now_trueDay) (.int v_now_wasAsked) (.int v_now_clothState) (.int v_now_cracks) (.ref a_now_known), aI cI a_now_known 7 v_now_known]) rfl (by decide) (fun H locs hP hS => ?_)
      refine lv_istore_n (lv' := [(3, .int r16), (0, .ref a_th), (1, .int p_1), (2, .int p_2)]) hx hb dX9_likely_48 rfl hl (by decide) rfl (fun ls hl => ?_)
      refine lv_goto (tgt := 55) hx hb dX9_likely_49 (by decide) ?_
      exact J55 r16 _ _ _ hm hP hS (lv_sub hl [1, 3, 0] rfl)
  · replace hm := ite_f c11 hm
    refine lv_aload_n hx hb dX9_likely_11 rfl (lv_at hl 0 rfl) ?_
    refine va_get (D := (dC, dI)) (ci := 7) (v := .ref a_now) (C := RX9) (T := TX9) (N := 11) hx hb hts iX9 hown hK hP 0 rfl rfl 3 (by decide) f35 (fun _ h9 => h9) rfl dX9_likely_12 ?_
    refine va_getN (D := (dC, dI)) (ci := 4) (v := .ref a_now_known) (C := RX4) (T := TX4) (N := 6) hx hb hts iX4 hown hK hP 2 rfl rfl 5 (by decide) f113 (fun _ h9 => h9) rfl dX9_likely_15 ?_
    refine lv_iload_n hx hb dX9_likely_18 rfl (lv_at hl 1 rfl) ?_
    obtain ⟨r18, ho19, hm⟩ := bd1_s hm
    refine kb_calli (Rv := r18) (va_runS (As := [.ref a_now_known, .int p_1]) (rest := []) ⟨hx, hb, hml, hown, hts⟩ (c_X8_countWithFact l dC dI cI cJ cZ cQ t H.size a_now_known 7 v_now_known p_1 (r18) ho19) (va_cwS 2 hts gX9_likely_X8_countWithFact rfl rfl rfl (by decide +kernel) ⟨(Nat.le_of_ble_eq_true rfl), (Nat.le_of_ble_eq_true rfl)⟩) (kb_pre hK hG hP (kb_D hD rfl) hS hA [3] rfl (by decide)) rfl rfl hl.1 rfl (lv_room (Nat.le_of_ble_eq_true rfl)) dX9_likely_19 ⟨Nat.zero_le _, Nat.zero_le _⟩) hP (kb_D hD rfl) hS hA [3] rfl [(false, 0), (false, 1), (false, 2), (true, 0)] (w2 := [oX9 a_th q_theText q_theQuestion (.ref a_theCastle) (.ref a_now) q_theActs q_theTold q_foresight q_keptMoments q_isKept q_marchWorlds (.long v_theSeed), oX1 a_theCastle (.int v_theCastle_facts) (.int v_theCastle_so) (.int v_theCastle_common) (.int v_theCastle_cases) (.int v_theCastle_firstTrueDay), oX4 a_now (.int v_now_date) (.int v_now_trueDay) (.int v_now_wasAsked) (.int v_now_clothState) (.int v_now_cracks) (.ref a_now_known), aI cI a_now_known 7 v_now_known]) rfl (by decide) (fun H locs hP hS => ?_)
    refine lv_istore_n (lv' := [(3, .int r18), (0, .ref a_th), (1, .int p_1), (2, .int p_2)]) hx hb dX9_likely_22 rfl hl (by decide) rfl (fun ls hl => ?_)
    refine lv_goto (tgt := 55) hx hb dX9_likely_23 (by decide) ?_
    exact J55 r18 _ _ _ hm hP hS (lv_sub hl [1, 3, 0] rfl)
set_option maxHeartbeats 4000000 in
set_option maxRecDepth 100000 in
theorem c_X9_seed (l : Launch) (dC : Nat → ClassId) (dI : Nat → Nat → Nat) (cI cJ cZ cQ : ClassId) (t sz : Nat) (a_th : Nat) (q_theText : Value) (q_theQuestion : Value) (q_theCastle : Value) (q_now : Value) (q_theActs : Value) (q_theTold : Value) (q_foresight : Value) (q_keptMoments : Value) (q_isKept : Value) (q_marchWorlds : Value) (v_theSeed : Int64) (p_1 : Int64) (o : Int64 × Int64) (hm : m_X9_seed p_1 v_theSeed = some o) : Met l yX9_seed wsX9_seed { frames := 0, cells := 0, slots := 0, locals := 0 } (va_Pc [.ref a_th, .long p_1] (cP (dC, dI) (kT cI cJ cZ cQ) t sz [oX9 a_th q_theText q_theQuestion q_theCastle q_now q_theActs q_theTold q_foresight q_keptMoments q_isKept q_marchWorlds (.long v_theSeed)])) (cQl (dC, dI) (va_A [oX9 a_th q_theText q_theQuestion q_theCastle q_now q_theActs q_theTold q_foresight q_keptMoments q_isKept q_marchWorlds (.long v_theSeed)] sz) o.1 [oX9 a_th q_theText q_theQuestion q_theCastle q_now q_theActs q_theTold q_foresight q_keptMoments q_isKept q_marchWorlds (.long (o.2))]) 0 0 (va_A [oX9 a_th q_theText q_theQuestion q_theCastle q_now q_theActs q_theTold q_foresight q_keptMoments q_isKept q_marchWorlds (.long v_theSeed)] sz) := by
  refine Met.ofW (cc := cX9_seed) (maxL := 5) (ret := (some .long)) (by decide) rfl ?_
  intro p e s m args below meth c s₁ B hml hv
  obtain ⟨rfl, hsz, hP, hK, hD0, hG⟩ := hv
  have hx := B.exec
  have hb := B.bytes
  have hr := B.returns
  have hts := atoms_spec (ws := wsX9_seed) B.pre
  have hown : s.vm.findClass RX9 = some m.cls := findClass_of_methodNamed B.named
  have hlocks := B.notSynchronized
  subst hsz
  have hD := hD0.self (sz := s.heap.size)
  generalize hAe : va_A [oX9 a_th q_theText q_theQuestion q_theCastle q_now q_theActs q_theTold q_foresight q_keptMoments q_isKept q_marchWorlds (.long v_theSeed)] s.heap.size = A at hD hG ⊢
  have hA : ∀ q : Nat, s.heap.size ≤ q → A q := fun q h => by rw [← hAe]; exact Or.inr h
  have hS : va_S A s.heap s.heap [] := va_S.rf
  have hl := lv_entry ([.ref a_th, .long p_1]) (n := 5) (Nat.le_of_ble_eq_true rfl)
  rw [lg_entry_eq]
  generalize (lg_sl ([.ref a_th, .long p_1]) ++ List.replicate (5 - (lg_sl ([.ref a_th, .long p_1])).length) Slot.unset).toArray = ls at hl ⊢
  have hl : lv_has ls 5 [(0, .ref a_th), (1, .long p_1)] := hl
  have iX9 : ∀ w ∈ wsX90, w ∈ wsX9_seed := fun _ h => List.mem_cons_of_mem _ (List.mem_append_right _ h)
  have f174 := hts (.fieldLink RX9 174 "TrueOnceWeek" "theSeed" "J") (by decide +kernel)
  refine kb_gen (fun Q hQ => ?_)
  unfold m_X9_seed at hm
  refine lv_aload_n hx hb dX9_seed_0 rfl (lv_at hl 0 rfl) ?_
  refine va_get (D := (dC, dI)) (ci := 7) (v := .long v_theSeed) (C := RX9) (T := TX9) (N := 11) hx hb hts iX9 hown hK hP 0 rfl rfl 10 (by decide) f174 (fun _ h9 => h9) rfl dX9_seed_1 ?_
  refine lv_lstore_n (lv' := [(3, .long v_theSeed), (0, .ref a_th), (1, .long p_1)]) hx hb dX9_seed_4 rfl hl (by decide) rfl (fun ls hl => ?_)
  refine lv_aload_n hx hb dX9_seed_5 rfl (lv_at hl 1 rfl) ?_
  refine lv_lload_n hx hb dX9_seed_6 rfl (lv_at hl 2 rfl) ?_
  refine va_put (D := (dC, dI)) (ci := 7) (v := .long p_1) (ty := .long) (C := RX9) (T := TX9) (N := 11) hx hb hts iX9 tyX9 tyX9_ok nmX9 hown hK hP (kb_D hD rfl) hS 0 rfl rfl 10 (by decide) f174 (fun _ h9 => h9) rfl (by decide +kernel) rfl rfl (Nat.le_of_ble_eq_true rfl) dX9_seed_7 (fun H locs hP _ hS => ?_)
  have hP : va_P (dC, dI) vwCl [oX9 a_th q_theText q_theQuestion q_theCastle q_now q_theActs q_theTold q_foresight q_keptMoments q_isKept q_marchWorlds (.long p_1)] H := hP
  refine lv_lload_n hx hb dX9_seed_10 rfl (lv_at hl 0 rfl) ?_
  obtain rfl := Option.some.inj hm
  subst hQ
  exact W.lret hx hb hr (fun t ht hW => ⟨⟨_, (), rfl, rfl, kb_h hP ht⟩, hS.F ht⟩) hS.2.2 dX9_seed_11
set_option maxHeartbeats 4000000 in
set_option maxRecDepth 100000 in
theorem c_X9_year (l : Launch) (dC : Nat → ClassId) (dI : Nat → Nat → Nat) (cI cJ cZ cQ : ClassId) (t sz : Nat) (a_th : Nat) (a_theQuestion : Nat) (a_theQuestion_letters : Nat) (a_theQuestion_letters_bytes : Nat) (a_theCastle : Nat) (a_now : Nat) (a_theQuestion_stack : Nat) (n_theQuestion_letters_bytes : Nat) (q_theText : Value) (q_theActs : Value) (q_theTold : Value) (q_foresight : Value) (q_keptMoments : Value) (q_isKept : Value) (q_marchWorlds : Value) (q_now_known : Value) (v_theSeed : Int64) (v_theQuestion_letters_length : Int32) (v_theQuestion_letters_bytes : (Nat → Int32)) (v_theCastle_facts : Int32) (v_theCastle_so : Int32) (v_theCastle_common : Int32) (v_theCastle_cases : Int32) (v_theCastle_firstTrueDay : Int32) (v_now_date : Int32) (v_now_trueDay : Int32) (v_now_wasAsked : Int32) (v_now_clothState : Int32) (v_now_cracks : Int32) (v_theQuestion_stack : (Nat → Int32)) (p_1 : Int32) (o : Int32 × Int64 × (Nat → Int32)) (hm : m_X9_year p_1 n_theQuestion_letters_bytes v_theSeed v_theQuestion_letters_length v_theQuestion_letters_bytes v_theCastle_facts v_theCastle_so v_now_date v_now_trueDay v_theQuestion_stack = some o) : Met l yX9_year wsX9_year { frames := 5, cells := 0, slots := 0, locals := 119 } (va_Pc [.ref a_th, .int p_1] (cP (dC, dI) (kT cI cJ cZ cQ) t sz [oX9 a_th q_theText (.ref a_theQuestion) (.ref a_theCastle) (.ref a_now) q_theActs q_theTold q_foresight q_keptMoments q_isKept q_marchWorlds (.long v_theSeed), oX5 a_theQuestion (.ref a_theQuestion_letters) (.ref a_theQuestion_stack), oX3 a_theQuestion_letters (.ref a_theQuestion_letters_bytes) (.int v_theQuestion_letters_length), aI cI a_theQuestion_letters_bytes n_theQuestion_letters_bytes v_theQuestion_letters_bytes, oX1 a_theCastle (.int v_theCastle_facts) (.int v_theCastle_so) (.int v_theCastle_common) (.int v_theCastle_cases) (.int v_theCastle_firstTrueDay), oX4 a_now (.int v_now_date) (.int v_now_trueDay) (.int v_now_wasAsked) (.int v_now_clothState) (.int v_now_cracks) q_now_known, aI cI a_theQuestion_stack 16 v_theQuestion_stack])) (cQi (dC, dI) (va_A [oX9 a_th q_theText (.ref a_theQuestion) (.ref a_theCastle) (.ref a_now) q_theActs q_theTold q_foresight q_keptMoments q_isKept q_marchWorlds (.long v_theSeed), oX5 a_theQuestion (.ref a_theQuestion_letters) (.ref a_theQuestion_stack), oX3 a_theQuestion_letters (.ref a_theQuestion_letters_bytes) (.int v_theQuestion_letters_length), aI cI a_theQuestion_letters_bytes n_theQuestion_letters_bytes v_theQuestion_letters_bytes, oX1 a_theCastle (.int v_theCastle_facts) (.int v_theCastle_so) (.int v_theCastle_common) (.int v_theCastle_cases) (.int v_theCastle_firstTrueDay), oX4 a_now (.int v_now_date) (.int v_now_trueDay) (.int v_now_wasAsked) (.int v_now_clothState) (.int v_now_cracks) q_now_known, aI cI a_theQuestion_stack 16 v_theQuestion_stack] sz) o.1 [oX9 a_th q_theText (.ref a_theQuestion) (.ref a_theCastle) (.ref a_now) q_theActs q_theTold q_foresight q_keptMoments q_isKept q_marchWorlds (.long (o.2.1)), oX5 a_theQuestion (.ref a_theQuestion_letters) (.ref a_theQuestion_stack), oX3 a_theQuestion_letters (.ref a_theQuestion_letters_bytes) (.int v_theQuestion_letters_length), aI cI a_theQuestion_letters_bytes n_theQuestion_letters_bytes v_theQuestion_letters_bytes, oX1 a_theCastle (.int v_theCastle_facts) (.int v_theCastle_so) (.int v_theCastle_common) (.int v_theCastle_cases) (.int v_theCastle_firstTrueDay), oX4 a_now (.int v_now_date) (.int v_now_trueDay) (.int v_now_wasAsked) (.int v_now_clothState) (.int v_now_cracks) q_now_known, aI cI a_theQuestion_stack 16 (o.2.2)]) 0 0 (va_A [oX9 a_th q_theText (.ref a_theQuestion) (.ref a_theCastle) (.ref a_now) q_theActs q_theTold q_foresight q_keptMoments q_isKept q_marchWorlds (.long v_theSeed), oX5 a_theQuestion (.ref a_theQuestion_letters) (.ref a_theQuestion_stack), oX3 a_theQuestion_letters (.ref a_theQuestion_letters_bytes) (.int v_theQuestion_letters_length), aI cI a_theQuestion_letters_bytes n_theQuestion_letters_bytes v_theQuestion_letters_bytes, oX1 a_theCastle (.int v_theCastle_facts) (.int v_theCastle_so) (.int v_theCastle_common) (.int v_theCastle_cases) (.int v_theCastle_firstTrueDay), oX4 a_now (.int v_now_date) (.int v_now_trueDay) (.int v_now_wasAsked) (.int v_now_clothState) (.int v_now_cracks) q_now_known, aI cI a_theQuestion_stack 16 v_theQuestion_stack] sz) := by
  refine Met.ofW (cc := cX9_year) (maxL := 6) (ret := (some .int)) (by decide) rfl ?_
  intro p e s m args below meth c s₁ B hml hv
  obtain ⟨rfl, hsz, hP, hK, hD0, hG⟩ := hv
  have hx := B.exec
  have hb := B.bytes
  have hr := B.returns
  have hts := atoms_spec (ws := wsX9_year) B.pre
  have hown : s.vm.findClass RX9 = some m.cls := findClass_of_methodNamed B.named
  have hlocks := B.notSynchronized
  subst hsz
  have hD := hD0.self (sz := s.heap.size)
  generalize hAe : va_A [oX9 a_th q_theText (.ref a_theQuestion) (.ref a_theCastle) (.ref a_now) q_theActs q_theTold q_foresight q_keptMoments q_isKept q_marchWorlds (.long v_theSeed), oX5 a_theQuestion (.ref a_theQuestion_letters) (.ref a_theQuestion_stack), oX3 a_theQuestion_letters (.ref a_theQuestion_letters_bytes) (.int v_theQuestion_letters_length), aI cI a_theQuestion_letters_bytes n_theQuestion_letters_bytes v_theQuestion_letters_bytes, oX1 a_theCastle (.int v_theCastle_facts) (.int v_theCastle_so) (.int v_theCastle_common) (.int v_theCastle_cases) (.int v_theCastle_firstTrueDay), oX4 a_now (.int v_now_date) (.int v_now_trueDay) (.int v_now_wasAsked) (.int v_now_clothState) (.int v_now_cracks) q_now_known, aI cI a_theQuestion_stack 16 v_theQuestion_stack] s.heap.size = A at hD hG ⊢
  have hA : ∀ q : Nat, s.heap.size ≤ q → A q := fun q h => by rw [← hAe]; exact Or.inr h
  have hS : va_S A s.heap s.heap [] := va_S.rf
  have hl := lv_entry ([.ref a_th, .int p_1]) (n := 6) (Nat.le_of_ble_eq_true rfl)
  rw [lg_entry_eq]
  generalize (lg_sl ([.ref a_th, .int p_1]) ++ List.replicate (6 - (lg_sl ([.ref a_th, .int p_1])).length) Slot.unset).toArray = ls at hl ⊢
  have hl : lv_has ls 6 [(0, .ref a_th), (1, .int p_1)] := hl
  have iX9 : ∀ w ∈ wsX90, w ∈ wsX9_year := fun _ h => List.mem_cons_of_mem _ (List.mem_append_left _ (List.mem_append_left _ (List.mem_append_left _ (List.mem_append_left _ (List.mem_append_right _ h)))))
  have iX4 : ∀ w ∈ wsX40, w ∈ wsX9_year := fun _ h => List.mem_cons_of_mem _ (List.mem_append_left _ (List.mem_append_left _ (List.mem_append_left _ (List.mem_append_right _ h))))
  have iX1 : ∀ w ∈ wsX10, w ∈ wsX9_year := fun _ h => List.mem_cons_of_mem _ (List.mem_append_left _ (List.mem_append_left _ (List.mem_append_right _ h)))
  have iX5 : ∀ w ∈ wsX50, w ∈ wsX9_year := fun _ h => List.mem_cons_of_mem _ (List.mem_append_left _ (List.mem_append_right _ h))
  have iX3 : ∀ w ∈ wsX30, w ∈ wsX9_year := fun _ h => List.mem_cons_of_mem _ (List.mem_append_right _ h)
  have f35 := hts (.fieldLink RX9 35 "TrueOnceWeek" "now" "LTrueOnceWeek$Moment;") (by decide +kernel)
  have f110 := va_Nw.use (A := [.ref a_th, .int p_1].toArray) (w := .fieldLinkNest RX9 110 "TrueOnceWeek$Moment" "date" "I" "TrueOnceWeek") rfl (hG.1 (RX9, 110, "TrueOnceWeek$Moment", "date", "I") (by decide +kernel))
  have f141 := va_Nw.use (A := [.ref a_th, .int p_1].toArray) (w := .fieldLinkNest RX9 141 "TrueOnceWeek$Moment" "trueDay" "I" "TrueOnceWeek") rfl (hG.1 (RX9, 141, "TrueOnceWeek$Moment", "trueDay", "I") (by decide +kernel))
  have f21 := hts (.fieldLink RX9 21 "TrueOnceWeek" "theQuestion" "LTrueOnceWeek$Question;") (by decide +kernel)
  have f28 := hts (.fieldLink RX9 28 "TrueOnceWeek" "theCastle" "LTrueOnceWeek$Castle;") (by decide +kernel)
  have f148 := va_Nw.use (A := [.ref a_th, .int p_1].toArray) (w := .fieldLinkNest RX9 148 "TrueOnceWeek$Castle" "so" "I" "TrueOnceWeek") rfl (hG.1 (RX9, 148, "TrueOnceWeek$Castle", "so", "I") (by decide +kernel))
  have f174 := hts (.fieldLink RX9 174 "TrueOnceWeek" "theSeed" "J") (by decide +kernel)
  refine kb_gen (fun Q hQ => ?_)
  unfold m_X9_year at hm
  refine lv_iload_n hx hb dX9_year_0 rfl (lv_at hl 1 rfl) ?_
  refine lv_iconst (v := (1 : Int32)) hx hb dX9_year_1 (by decide) ?_
  refine lv_icmp_lt (tgt := 11) hx hb dX9_year_2 (by decide) (fun c1 => ?_) (fun c1 => ?_)
  · replace hm := ite_t c1 hm
    refine lv_bipush (v := (-2 : Int32)) hx hb dX9_year_11 (by decide) ?_
    obtain rfl := Option.some.inj hm
    subst hQ
    exact W.iret hx hb hr (fun t ht hW => ⟨⟨_, (), rfl, rfl, kb_h hP ht⟩, hS.F ht⟩) hS.2.2 dX9_year_13
  · replace hm := ite_f c1 hm
    refine lv_iload_n hx hb dX9_year_5 rfl (lv_at hl 1 rfl) ?_
    refine lv_bipush (v := (60 : Int32)) hx hb dX9_year_6 (by decide) ?_
    refine lv_icmp_le (tgt := 14) hx hb dX9_year_8 (by decide) (fun c2 => ?_) (fun c2 => ?_)
    · replace hm := ite_t c2 hm
      refine lv_aload_n hx hb dX9_year_14 rfl (lv_at hl 0 rfl) ?_
      obtain ⟨r3, ho4, hm⟩ := bd1_s hm
      refine kb_calli (Rv := r3) (va_runV (As := []) (rest := []) ⟨hx, hb, hml, hown, hts⟩ (c_X9_hasSlip l dC dI cI cJ cZ cQ t s.heap.size a_th a_theQuestion a_theQuestion_letters a_theQuestion_letters_bytes a_theCastle n_theQuestion_letters_bytes q_theText (.ref a_now) q_theActs q_theTold q_foresight q_keptMoments q_isKept q_marchWorlds (.ref a_theQuestion_stack) v_theSeed v_theQuestion_letters_length v_theQuestion_letters_bytes v_theCastle_facts v_theCastle_so v_theCastle_common v_theCastle_cases v_theCastle_firstTrueDay (r3) ho4) (cwV 0 hts gX9_year_X9_hasSlip rfl rfl rfl (by decide +kernel) ⟨(Nat.le_of_ble_eq_true rfl), (Nat.le_of_ble_eq_true rfl)⟩) ⟨(kb_pre hK hG hP (kb_D hD rfl) hS hA [0, 1, 2, 3, 4] rfl (by decide)).1, (va_recv hK hP (ci := 7) (q0 := 0) rfl rfl), (kb_pre hK hG hP (kb_D hD rfl) hS hA [0, 1, 2, 3, 4] rfl (by decide)).2⟩ rfl rfl hl.1 rfl (lv_room (Nat.le_of_ble_eq_true rfl)) dX9_year_15 ⟨Nat.zero_le _, Nat.zero_le _⟩) hP (kb_D hD rfl) hS hA [0, 1, 2, 3, 4] rfl [(true, 0), (true, 1), (true, 2), (true, 3), (true, 4), (false, 5), (false, 6)] (w2 := [oX9 a_th q_theText (.ref a_theQuestion) (.ref a_theCastle) (.ref a_now) q_theActs q_theTold q_foresight q_keptMoments q_isKept q_marchWorlds (.long v_theSeed), oX5 a_theQuestion (.ref a_theQuestion_letters) (.ref a_theQuestion_stack), oX3 a_theQuestion_letters (.ref a_theQuestion_letters_bytes) (.int v_theQuestion_letters_length), aI cI a_theQuestion_letters_bytes n_theQuestion_letters_bytes v_theQuestion_letters_bytes, oX1 a_theCastle (.int v_theCastle_facts) (.int v_theCastle_so) (.int v_theCastle_common) (.int v_theCastle_cases) (.int v_theCastle_firstTrueDay), oX4 a_now (.int v_now_date) (.int v_now_trueDay) (.int v_now_wasAsked) (.int v_now_clothState) (.int v_now_cracks) q_now_known, aI cI a_theQuestion_stack 16 v_theQuestion_stack]) rfl (by decide) (fun H locs hP hS => ?_)
      refine lv_if_eq (tgt := 24) hx hb dX9_year_18 (by decide) (fun c5 => ?_) (fun c5 => ?_)
      · replace hm := ite_t c5 hm
        refine lv_aload_n hx hb dX9_year_24 rfl (lv_at hl 0 rfl) ?_
        refine va_get (D := (dC, dI)) (ci := 7) (v := .ref a_now) (C := RX9) (T := TX9) (N := 11) hx hb hts iX9 hown hK hP 0 rfl rfl 3 (by decide) f35 (fun _ h9 => h9) rfl dX9_year_25 ?_
        refine va_getN (D := (dC, dI)) (ci := 4) (v := .int v_now_date) (C := RX4) (T := TX4) (N := 6) hx hb hts iX4 hown hK hP 5 rfl rfl 0 (by decide) f110 (fun _ h9 => h9) rfl dX9_year_28 ?_
        refine lv_istore_n (lv' := [(2, .int v_now_date), (0, .ref a_th), (1, .int p_1)]) hx hb dX9_year_31 rfl hl (by decide) rfl (fun ls hl => ?_)
        refine lv_aload_n hx hb dX9_year_32 rfl (lv_at hl 1 rfl) ?_
        refine va_get (D := (dC, dI)) (ci := 7) (v := .ref a_now) (C := RX9) (T := TX9) (N := 11) hx hb hts iX9 hown hK hP 0 rfl rfl 3 (by decide) f35 (fun _ h9 => h9) rfl dX9_year_33 ?_
        refine va_getN (D := (dC, dI)) (ci := 4) (v := .int v_now_trueDay) (C := RX4) (T := TX4) (N := 6) hx hb hts iX4 hown hK hP 5 rfl rfl 1 (by decide) f141 (fun _ h9 => h9) rfl dX9_year_36 ?_
        refine lv_istore_n (lv' := [(3, .int v_now_trueDay), (2, .int v_now_date), (0, .ref a_th), (1, .int p_1)]) hx hb dX9_year_39 rfl hl (by decide) rfl (fun ls hl => ?_)
        refine lv_iconst (v := (0 : Int32)) hx hb dX9_year_40 (by decide) ?_
        refine lv_istore (lv' := [(4, .int (0 : Int32)), (3, .int v_now_trueDay), (2, .int v_now_date), (0, .ref a_th), (1, .int p_1)]) hx hb dX9_year_41 hl (by decide) rfl (fun ls hl => ?_)
        refine lv_iconst (v := (0 : Int32)) hx hb dX9_year_43 (by decide) ?_
        refine lv_istore (lv' := [(5, .int (0 : Int32)), (4, .int (0 : Int32)), (3, .int v_now_trueDay), (2, .int v_now_date), (0, .ref a_th), (1, .int p_1)]) hx hb dX9_year_44 hl (by decide) rfl (fun ls hl => ?_)
        have lp46 : ∀ (n46 : Nat) (x6 : Int32) (x7 : Int32) (x8 : Int32) (x9 : Int32) (w10 : Int64) (w11 : (Nat → Int32)) (k46 : Int32 → Int64 → (Nat → Int32) → Option (Int32 × Int64 × (Nat → Int32))) (H : Heap) (locs : List Loc) (ls : Array Slot), L_X9_year_46 v_theQuestion_letters_length v_theQuestion_letters_bytes v_theCastle_so p_1 n_theQuestion_letters_bytes n46 x6 x7 x8 x9 w10 w11 k46 = some o → (∀ (x12 : Int32) (w13 : Int64) (w14 : (Nat → Int32)) (H : Heap) (locs : List Loc) (ls : Array Slot), k46 x12 w13 w14 = some o → va_P (dC, dI) vwCl [oX9 a_th q_theText (.ref a_theQuestion) (.ref a_theCastle) (.ref a_now) q_theActs q_theTold q_foresight q_keptMoments q_isKept q_marchWorlds (.long w13), oX5 a_theQuestion (.ref a_theQuestion_letters) (.ref a_theQuestion_stack), oX3 a_theQuestion_letters (.ref a_theQuestion_letters_bytes) (.int v_theQuestion_letters_length), aI cI a_theQuestion_letters_bytes n_theQuestion_letters_bytes v_theQuestion_letters_bytes, oX1 a_theCastle (.int v_theCastle_facts) (.int v_theCastle_so) (.int v_theCastle_common) (.int v_theCastle_cases) (.int v_theCastle_firstTrueDay), oX4 a_now (.int v_now_date) (.int v_now_trueDay) (.int v_now_wasAsked) (.int v_now_clothState) (.int v_now_cracks) q_now_known, aI cI a_theQuestion_stack 16 w14] H → va_S A s.heap H locs → lv_has ls 6 [(4, .int x12)] → W p l e (headSpec wsX9_year { frames := 5, cells := 0, slots := 0, locals := 119 }).room s m [.ref a_th, .int p_1].toArray below meth c H locs 0 0 Q (F0 m 115 ls [])) → va_P (dC, dI) vwCl [oX9 a_th q_theText (.ref a_theQuestion) (.ref a_theCastle) (.ref a_now) q_theActs q_theTold q_foresight q_keptMoments q_isKept q_marchWorlds (.long w10), oX5 a_theQuestion (.ref a_theQuestion_letters) (.ref a_theQuestion_stack), oX3 a_theQuestion_letters (.ref a_theQuestion_letters_bytes) (.int v_theQuestion_letters_length), aI cI a_theQuestion_letters_bytes n_theQuestion_letters_bytes v_theQuestion_letters_bytes, oX1 a_theCastle (.int v_theCastle_facts) (.int v_theCastle_so) (.int v_theCastle_common) (.int v_theCastle_cases) (.int v_theCastle_firstTrueDay), oX4 a_now (.int v_now_date) (.int v_now_trueDay) (.int v_now_wasAsked) (.int v_now_clothState) (.int v_now_cracks) q_now_known, aI cI a_theQuestion_stack 16 w11] H → va_S A s.heap H locs → lv_has ls 6 [(0, .ref a_th), (1, .int p_1), (2, .int x6), (3, .int x7), (4, .int x8), (5, .int x9)] → W p l e (headSpec wsX9_year { frames := 5, cells := 0, slots := 0, locals := 119 }).room s m [.ref a_th, .int p_1].toArray below meth c H locs 0 0 Q (F0 m 46 ls []) := by
          intro n46
          induction n46 with
          | zero =>
            intro x6 x7 x8 x9 w10 w11 k46 H locs ls hm
            cases (show (none : Option (Int32 × Int64 × (Nat → Int32))) = some o from hm)
          | succ n46 ih46 =>
            intro x6 x7 x8 x9 w10 w11 k46 H locs ls hm hk46 hP hS hl
            rw [L_X9_year_46.eq_2] at hm
            refine lv_iload hx hb dX9_year_46 (lv_at hl 5 rfl) ?_
            refine lv_iload_n hx hb dX9_year_48 rfl (lv_at hl 1 rfl) ?_
            refine lv_icmp_ge (tgt := 115) hx hb dX9_year_49 (by decide) (fun c15 => ?_) (fun c15 => ?_)
            · replace hm := ite_t c15 hm
              exact hk46 x8 w10 w11 _ _ _ hm hP hS (lv_sub hl [4] rfl)
            · replace hm := ite_f c15 hm
              refine lv_iload_n hx hb dX9_year_52 rfl (lv_at hl 2 rfl) ?_
              refine lv_iconst (v := (1 : Int32)) hx hb dX9_year_53 (by decide) ?_
              refine lv_iadd hx hb dX9_year_54 ?_
              refine lv_bipush (v := (28 : Int32)) hx hb dX9_year_55 (by decide) ?_
              refine lv_irem hx hb dX9_year_57 (by decide) ?_
              refine lv_topi (fun x16 ex16 => ?_)
              replace hm := nm_t ex16 hm
              refine lv_istore_n (lv' := [(2, .int x16), (0, .ref a_th), (1, .int p_1), (3, .int x7), (4, .int x8), (5, .int x9)]) hx hb dX9_year_58 rfl hl (by decide) rfl (fun ls hl => ?_)
              refine lv_iload_n hx hb dX9_year_59 rfl (lv_at hl 0 rfl) ?_
              obtain ⟨k82, ek82, hm⟩ := nm_s hm
              have J82 : ∀ (x17 : Int32) (w18 : Int64) (H : Heap) (locs : List Loc) (ls : Array Slot), k82 x17 w18 = some o → va_P (dC, dI) vwCl [oX9 a_th q_theText (.ref a_theQuestion) (.ref a_theCastle) (.ref a_now) q_theActs q_theTold q_foresight q_keptMoments q_isKept q_marchWorlds (.long w18), oX5 a_theQuestion (.ref a_theQuestion_letters) (.ref a_theQuestion_stack), oX3 a_theQuestion_letters (.ref a_theQuestion_letters_bytes) (.int v_theQuestion_letters_length), aI cI a_theQuestion_letters_bytes n_theQuestion_letters_bytes v_theQuestion_letters_bytes, oX1 a_theCastle (.int v_theCastle_facts) (.int v_theCastle_so) (.int v_theCastle_common) (.int v_theCastle_cases) (.int v_theCastle_firstTrueDay), oX4 a_now (.int v_now_date) (.int v_now_trueDay) (.int v_now_wasAsked) (.int v_now_clothState) (.int v_now_cracks) q_now_known, aI cI a_theQuestion_stack 16 w11] H → va_S A s.heap H locs → lv_has ls 6 [(0, .ref a_th), (1, .int p_1), (2, .int x16), (3, .int x17), (4, .int x8), (5, .int x9)] → W p l e (headSpec wsX9_year { frames := 5, cells := 0, slots := 0, locals := 119 }).room s m [.ref a_th, .int p_1].toArray below meth c H locs 0 0 Q (F0 m 82 ls []) := by
                intro x17 w18 H locs ls hm hP hS hl
                rw [ek82] at hm
                refine lv_aload_n hx hb dX9_year_82 rfl (lv_at hl 0 rfl) ?_
                refine va_get (D := (dC, dI)) (ci := 7) (v := .ref a_theQuestion) (C := RX9) (T := TX9) (N := 11) hx hb hts iX9 hown hK hP 0 rfl rfl 1 (by decide) f21 (fun _ h9 => h9) rfl dX9_year_83 ?_
                refine lv_iload_n hx hb dX9_year_86 rfl (lv_at hl 2 rfl) ?_
                refine lv_bipush (v := (7 : Int32)) hx hb dX9_year_87 (by decide) ?_
                refine lv_irem hx hb dX9_year_89 (by decide) ?_
                refine lv_iload_n hx hb dX9_year_90 rfl (lv_at hl 3 rfl) ?_
                refine lv_aload_n hx hb dX9_year_91 rfl (lv_at hl 0 rfl) ?_
                refine va_get (D := (dC, dI)) (ci := 7) (v := .ref a_theCastle) (C := RX9) (T := TX9) (N := 11) hx hb hts iX9 hown hK hP 0 rfl rfl 2 (by decide) f28 (fun _ h9 => h9) rfl dX9_year_92 ?_
                refine va_getN (D := (dC, dI)) (ci := 1) (v := .int v_theCastle_so) (C := RX1) (T := TX1) (N := 5) hx hb hts iX1 hown hK hP 4 rfl rfl 1 (by decide) f148 (fun _ h9 => h9) rfl dX9_year_95 ?_
                refine lv_iconst (v := (0 : Int32)) hx hb dX9_year_98 (by decide) ?_
                obtain ⟨r19, w20, ho21, hm⟩ := bd2_s hm
                refine kb_calli (Rv := r19) (va_runV (As := [.int (x16 - x16 / (7 : Int32) * (7 : Int32)), .int x17, .int v_theCastle_so, .int (0 : Int32)]) (rest := []) ⟨hx, hb, hml, hown, hts⟩ (c_X5_answerIn l dC dI cI cJ cZ cQ t H.size a_theQuestion a_theQuestion_letters a_theQuestion_letters_bytes a_theQuestion_stack n_theQuestion_letters_bytes v_theQuestion_letters_length v_theQuestion_letters_bytes w11 (x16 - x16 / (7 : Int32) * (7 : Int32)) x17 v_theCastle_so (0 : Int32) (r19, w20) ho21) (cwV 4 hts gX9_year_X5_answerIn rfl rfl rfl (by decide +kernel) ⟨(Nat.le_of_ble_eq_true rfl), (Nat.le_of_ble_eq_true rfl)⟩) ⟨(kb_pre hK hG hP (kb_D hD rfl) hS hA [1, 2, 3, 6] rfl (by decide)).1, (va_recv hK hP (ci := 5) (q0 := 1) rfl rfl), (kb_pre hK hG hP (kb_D hD rfl) hS hA [1, 2, 3, 6] rfl (by decide)).2⟩ rfl rfl hl.1 rfl (lv_room (Nat.le_of_ble_eq_true rfl)) dX9_year_99 ⟨Nat.zero_le _, Nat.zero_le _⟩) hP (kb_D hD rfl) hS hA [1, 2, 3, 6] rfl [(false, 0), (true, 0), (true, 1), (true, 2), (false, 4), (false, 5), (true, 3)] (w2 := [oX9 a_th q_theText (.ref a_theQuestion) (.ref a_theCastle) (.ref a_now) q_theActs q_theTold q_foresight q_keptMoments q_isKept q_marchWorlds (.long w18), oX5 a_theQuestion (.ref a_theQuestion_letters) (.ref a_theQuestion_stack), oX3 a_theQuestion_letters (.ref a_theQuestion_letters_bytes) (.int v_theQuestion_letters_length), aI cI a_theQuestion_letters_bytes n_theQuestion_letters_bytes v_theQuestion_letters_bytes, oX1 a_theCastle (.int v_theCastle_facts) (.int v_theCastle_so) (.int v_theCastle_common) (.int v_theCastle_cases) (.int v_theCastle_firstTrueDay), oX4 a_now (.int v_now_date) (.int v_now_trueDay) (.int v_now_wasAsked) (.int v_now_clothState) (.int v_now_cracks) q_now_known, aI cI a_theQuestion_stack 16 w20]) rfl (by decide) (fun H locs hP hS => ?_)
                refine lv_iconst (v := (1 : Int32)) hx hb dX9_year_102 (by decide) ?_
                obtain ⟨k109, ek109, hm⟩ := nm_s hm
                have J109 : ∀ (x22 : Int32) (H : Heap) (locs : List Loc) (ls : Array Slot), k109 x22 = some o → va_P (dC, dI) vwCl [oX9 a_th q_theText (.ref a_theQuestion) (.ref a_theCastle) (.ref a_now) q_theActs q_theTold q_foresight q_keptMoments q_isKept q_marchWorlds (.long w18), oX5 a_theQuestion (.ref a_theQuestion_letters) (.ref a_theQuestion_stack), oX3 a_theQuestion_letters (.ref a_theQuestion_letters_bytes) (.int v_theQuestion_letters_length), aI cI a_theQuestion_letters_bytes n_theQuestion_letters_bytes v_theQuestion_letters_bytes, oX1 a_theCastle (.int v_theCastle_facts) (.int v_theCastle_so) (.int v_theCastle_common) (.int v_theCastle_cases) (.int v_theCastle_firstTrueDay), oX4 a_now (.int v_now_date) (.int v_now_trueDay) (.int v_now_wasAsked) (.int v_now_clothState) (.int v_now_cracks) q_now_known, aI cI a_theQuestion_stack 16 w20] H → va_S A s.heap H locs → lv_has ls 6 [(0, .ref a_th), (1, .int p_1), (2, .int x16), (3, .int x17), (4, .int x22), (5, .int x9)] → W p l e (headSpec wsX9_year { frames := 5, cells := 0, slots := 0, locals := 119 }).room s m [.ref a_th, .int p_1].toArray below meth c H locs 0 0 Q (F0 m 109 ls []) := by
                  intro x22 H locs ls hm hP hS hl
                  rw [ek109] at hm
                  obtain ⟨x23, ex23⟩ : ∃ y : Int32, y = x9 + (1 : Int32) := ⟨_, rfl⟩
                  replace hm := nm_t ex23 hm
                  refine lv_iinc (v := x23) (lv' := [(5, .int x23), (0, .ref a_th), (1, .int p_1), (2, .int x16), (3, .int x17), (4, .int x22)]) hx hb dX9_year_109 hl (k := 5) rfl (by rw [ex23]; rfl) (by decide) rfl (fun ls hl => ?_)
                  refine lv_goto (tgt := 46) hx hb dX9_year_112 (by decide) ?_
                  exact ih46 x16 x17 x22 x23 w18 w20 k46 _ _ _ hm hk46 hP hS (lv_sub hl [1, 2, 3, 4, 5, 0] rfl)
                refine lv_icmp_ne (tgt := 109) hx hb dX9_year_103 (by decide) (fun c24 => ?_) (fun c24 => ?_)
                · replace hm := ite_f c24 hm
                  exact J109 x8 _ _ _ hm hP hS (lv_sub hl [0, 1, 2, 3, 4, 5] rfl)
                · replace hm := ite_t c24 hm
                  obtain ⟨x25, ex25⟩ : ∃ y : Int32, y = x8 + (1 : Int32) := ⟨_, rfl⟩
                  replace hm := nm_t ex25 hm
                  refine lv_iinc (v := x25) (lv' := [(4, .int x25), (0, .ref a_th), (1, .int p_1), (2, .int x16), (3, .int x17), (5, .int x9)]) hx hb dX9_year_106 hl (k := 4) rfl (by rw [ex25]; rfl) (by decide) rfl (fun ls hl => ?_)
                  exact J109 x25 _ _ _ hm hP hS (lv_sub hl [1, 2, 3, 4, 0, 5] rfl)
              refine lv_if_ne (tgt := 82) hx hb dX9_year_60 (by decide) (fun c26 => ?_) (fun c26 => ?_)
              · replace hm := ite_f c26 hm
                exact J82 x7 w10 _ _ _ hm hP hS (lv_sub hl [1, 2, 0, 3, 4, 5] rfl)
              · replace hm := ite_t c26 hm
                refine lv_aload_n hx hb dX9_year_63 rfl (lv_at hl 1 rfl) ?_
                refine lv_aload_n hx hb dX9_year_64 rfl (lv_at hl 1 rfl) ?_
                refine va_get (D := (dC, dI)) (ci := 7) (v := .long w10) (C := RX9) (T := TX9) (N := 11) hx hb hts iX9 hown hK hP 0 rfl rfl 10 (by decide) f174 (fun _ h9 => h9) rfl dX9_year_65 ?_
                obtain ⟨r27, ho28, hm⟩ := bd1_s hm
                refine kb_calll (Rv := r27) (va_runS (As := [.long w10]) (rest := [.ref a_th]) ⟨hx, hb, hml, hown, hts⟩ (c_X9_nextSeed l dC dI cI cJ cZ cQ t H.size w10 (r27) ho28) (va_cwS 1 hts gX9_year_X9_nextSeed rfl rfl rfl (by decide +kernel) ⟨(Nat.le_of_ble_eq_true rfl), (Nat.le_of_ble_eq_true rfl)⟩) (kb_pre hK hG hP (kb_D hD rfl) hS hA [] rfl (by decide)) rfl rfl hl.1 rfl (lv_room (Nat.le_of_ble_eq_true rfl)) dX9_year_68 ⟨Nat.zero_le _, Nat.zero_le _⟩) hP (kb_D hD rfl) hS hA [] rfl [(false, 0), (false, 1), (false, 2), (false, 3), (false, 4), (false, 5), (false, 6)] (w2 := [oX9 a_th q_theText (.ref a_theQuestion) (.ref a_theCastle) (.ref a_now) q_theActs q_theTold q_foresight q_keptMoments q_isKept q_marchWorlds (.long w10), oX5 a_theQuestion (.ref a_theQuestion_letters) (.ref a_theQuestion_stack), oX3 a_theQuestion_letters (.ref a_theQuestion_letters_bytes) (.int v_theQuestion_letters_length), aI cI a_theQuestion_letters_bytes n_theQuestion_letters_bytes v_theQuestion_letters_bytes, oX1 a_theCastle (.int v_theCastle_facts) (.int v_theCastle_so) (.int v_theCastle_common) (.int v_theCastle_cases) (.int v_theCastle_firstTrueDay), oX4 a_now (.int v_now_date) (.int v_now_trueDay) (.int v_now_wasAsked) (.int v_now_clothState) (.int v_now_cracks) q_now_known, aI cI a_theQuestion_stack 16 w11]) rfl (by decide) (fun H locs hP hS => ?_)
                refine va_put (D := (dC, dI)) (ci := 7) (v := .long r27) (ty := .long) (C := RX9) (T := TX9) (N := 11) hx hb hts iX9 tyX9 tyX9_ok nmX9 hown hK hP (kb_D hD rfl) hS 0 rfl rfl 10 (by decide) f174 (fun _ h9 => h9) rfl (by decide +kernel) rfl rfl (Nat.le_of_ble_eq_true rfl) dX9_year_71 (fun H locs hP _ hS => ?_)
                have hP : va_P (dC, dI) vwCl [oX9 a_th q_theText (.ref a_theQuestion) (.ref a_theCastle) (.ref a_now) q_theActs q_theTold q_foresight q_keptMoments q_isKept q_marchWorlds (.long r27), oX5 a_theQuestion (.ref a_theQuestion_letters) (.ref a_theQuestion_stack), oX3 a_theQuestion_letters (.ref a_theQuestion_letters_bytes) (.int v_theQuestion_letters_length), aI cI a_theQuestion_letters_bytes n_theQuestion_letters_bytes v_theQuestion_letters_bytes, oX1 a_theCastle (.int v_theCastle_facts) (.int v_theCastle_so) (.int v_theCastle_common) (.int v_theCastle_cases) (.int v_theCastle_firstTrueDay), oX4 a_now (.int v_now_date) (.int v_now_trueDay) (.int v_now_wasAsked) (.int v_now_clothState) (.int v_now_cracks) q_now_known, aI cI a_theQuestion_stack 16 w11] H := hP
                refine lv_aload_n hx hb dX9_year_74 rfl (lv_at hl 1 rfl) ?_
                refine va_get (D := (dC, dI)) (ci := 7) (v := .long r27) (C := RX9) (T := TX9) (N := 11) hx hb hts iX9 hown hK hP 0 rfl rfl 10 (by decide) f174 (fun _ h9 => h9) rfl dX9_year_75 ?_
                obtain ⟨r29, ho30, hm⟩ := bd1_s hm
                refine kb_calli (Rv := r29) (va_runS (As := [.long r27]) (rest := []) ⟨hx, hb, hml, hown, hts⟩ (c_X9_drawnDay l dC dI cI cJ cZ cQ t H.size r27 (r29) ho30) (va_cwS 1 hts gX9_year_X9_drawnDay rfl rfl rfl (by decide +kernel) ⟨(Nat.le_of_ble_eq_true rfl), (Nat.le_of_ble_eq_true rfl)⟩) (kb_pre hK hG hP (kb_D hD rfl) hS hA [] rfl (by decide)) rfl rfl hl.1 rfl (lv_room (Nat.le_of_ble_eq_true rfl)) dX9_year_78 ⟨Nat.zero_le _, Nat.zero_le _⟩) hP (kb_D hD rfl) hS hA [] rfl [(false, 0), (false, 1), (false, 2), (false, 3), (false, 4), (false, 5), (false, 6)] (w2 := [oX9 a_th q_theText (.ref a_theQuestion) (.ref a_theCastle) (.ref a_now) q_theActs q_theTold q_foresight q_keptMoments q_isKept q_marchWorlds (.long r27), oX5 a_theQuestion (.ref a_theQuestion_letters) (.ref a_theQuestion_stack), oX3 a_theQuestion_letters (.ref a_theQuestion_letters_bytes) (.int v_theQuestion_letters_length), aI cI a_theQuestion_letters_bytes n_theQuestion_letters_bytes v_theQuestion_letters_bytes, oX1 a_theCastle (.int v_theCastle_facts) (.int v_theCastle_so) (.int v_theCastle_common) (.int v_theCastle_cases) (.int v_theCastle_firstTrueDay), oX4 a_now (.int v_now_date) (.int v_now_trueDay) (.int v_now_wasAsked) (.int v_now_clothState) (.int v_now_cracks) q_now_known, aI cI a_theQuestion_stack 16 w11]) rfl (by decide) (fun H locs hP hS => ?_)
                refine lv_istore_n (lv' := [(3, .int r29), (2, .int x16), (0, .ref a_th), (1, .int p_1), (4, .int x8), (5, .int x9)]) hx hb dX9_year_81 rfl hl (by decide) rfl (fun ls hl => ?_)
                exact J82 r29 r27 _ _ _ hm hP hS (lv_sub hl [2, 3, 1, 0, 4, 5] rfl)
        refine lp46 1024 v_now_date v_now_trueDay (0 : Int32) (0 : Int32) v_theSeed v_theQuestion_stack _ _ _ _ hm (fun x12 w13 w14 H locs ls hm hP hS hl => ?_) hP hS (lv_sub hl [4, 5, 3, 2, 1, 0] rfl)
        refine lv_iload hx hb dX9_year_115 (lv_at hl 0 rfl) ?_
        obtain rfl := Option.some.inj hm
        subst hQ
        exact W.iret hx hb hr (fun t ht hW => ⟨⟨_, (), rfl, rfl, kb_h hP ht⟩, hS.F ht⟩) hS.2.2 dX9_year_117
      · replace hm := ite_f c5 hm
        refine lv_bipush (v := (-3 : Int32)) hx hb dX9_year_21 (by decide) ?_
        obtain rfl := Option.some.inj hm
        subst hQ
        exact W.iret hx hb hr (fun t ht hW => ⟨⟨_, (), rfl, rfl, kb_h hP ht⟩, hS.F ht⟩) hS.2.2 dX9_year_23
    · replace hm := ite_f c2 hm
      refine lv_bipush (v := (-2 : Int32)) hx hb dX9_year_11 (by decide) ?_
      obtain rfl := Option.some.inj hm
      subst hQ
      exact W.iret hx hb hr (fun t ht hW => ⟨⟨_, (), rfl, rfl, kb_h hP ht⟩, hS.F ht⟩) hS.2.2 dX9_year_13
set_option maxHeartbeats 4000000 in
set_option maxRecDepth 100000 in
theorem c_X9_isSlot (l : Launch) (dC : Nat → ClassId) (dI : Nat → Nat → Nat) (cI cJ cZ cQ : ClassId) (t sz : Nat) (p_0 : Int32) (o : Int32) (hm : m_X9_isSlot p_0 = some o) : Met l yX9_isSlot wsX9_isSlot { frames := 0, cells := 0, slots := 0, locals := 0 } (va_Pc [.int p_0] (cP (dC, dI) (kT cI cJ cZ cQ) t sz [])) (cQi (dC, dI) (va_A [] sz) o []) 0 0 (va_A [] sz) := by
  refine Met.ofW (cc := cX9_isSlot) (maxL := 1) (ret := (some .boolean)) (by decide) rfl ?_
  intro p e s m args below meth c s₁ B hml hv
  obtain ⟨rfl, hsz, hP, hK, hD0, hG⟩ := hv
  have hx := B.exec
  have hb := B.bytes
  have hr := B.returns
  have hts := atoms_spec (ws := wsX9_isSlot) B.pre
  have hown : s.vm.findClass RX9 = some m.cls := findClass_of_methodNamed B.named
  have hlocks := B.notSynchronized
  subst hsz
  have hD := hD0.self (sz := s.heap.size)
  generalize hAe : va_A [] s.heap.size = A at hD hG ⊢
  have hA : ∀ q : Nat, s.heap.size ≤ q → A q := fun q h => by rw [← hAe]; exact Or.inr h
  have hS : va_S A s.heap s.heap [] := va_S.rf
  have hl := lv_entry ([.int p_0]) (n := 1) (Nat.le_of_ble_eq_true rfl)
  rw [lg_entry_eq]
  generalize (lg_sl ([.int p_0]) ++ List.replicate (1 - (lg_sl ([.int p_0])).length) Slot.unset).toArray = ls at hl ⊢
  have hl : lv_has ls 1 [(0, .int p_0)] := hl
  refine kb_gen (fun Q hQ => ?_)
  unfold m_X9_isSlot at hm
  refine lv_iload_n hx hb dX9_isSlot_0 rfl (lv_at hl 0 rfl) ?_
  obtain ⟨k13, ek13, hm⟩ := nm_s hm
  have J13 : ∀ (H : Heap) (locs : List Loc) (ls : Array Slot), k13 = some o → va_P (dC, dI) vwCl [] H → va_S A s.heap H locs → lv_has ls 1 [] → W p l e (headSpec wsX9_isSlot { frames := 0, cells := 0, slots := 0, locals := 0 }).room s m [.int p_0].toArray below meth c H locs 0 0 Q (F0 m 13 ls []) := by
    intro  H locs ls hm hP hS hl
    rw [ek13] at hm
    refine lv_iconst (v := (0 : Int32)) hx hb dX9_isSlot_13 (by decide) ?_
    obtain rfl := Option.some.inj hm
    subst hQ
    exact W.zret hx hb hr rfl (fun t ht hW => ⟨⟨_, (), rfl, rfl, kb_h hP ht⟩, hS.F ht⟩) hS.2.2 dX9_isSlot_14
  refine lv_if_lt (tgt := 13) hx hb dX9_isSlot_1 (by decide) (fun c1 => ?_) (fun c1 => ?_)
  · replace hm := ite_t c1 hm
    exact J13  _ _ _ hm hP hS (lv_sub hl [] rfl)
  · replace hm := ite_f c1 hm
    refine lv_iload_n hx hb dX9_isSlot_4 rfl (lv_at hl 0 rfl) ?_
    refine lv_iconst (v := (2 : Int32)) hx hb dX9_isSlot_5 (by decide) ?_
    refine lv_icmp_ge (tgt := 13) hx hb dX9_isSlot_6 (by decide) (fun c2 => ?_) (fun c2 => ?_)
    · replace hm := ite_t c2 hm
      exact J13  _ _ _ hm hP hS (lv_sub hl [] rfl)
    · replace hm := ite_f c2 hm
      refine lv_iconst (v := (1 : Int32)) hx hb dX9_isSlot_9 (by decide) ?_
      refine lv_goto (tgt := 14) hx hb dX9_isSlot_10 (by decide) ?_
      obtain rfl := Option.some.inj hm
      subst hQ
      exact W.zret hx hb hr rfl (fun t ht hW => ⟨⟨_, (), rfl, rfl, kb_h hP ht⟩, hS.F ht⟩) hS.2.2 dX9_isSlot_14
set_option maxHeartbeats 4000000 in
set_option maxRecDepth 100000 in
theorem c_X9_keep (l : Launch) (dC : Nat → ClassId) (dI : Nat → Nat → Nat) (cI cJ cZ cQ : ClassId) (t sz : Nat) (a_th : Nat) (a_now : Nat) (a_keptMoments : Nat) (a_now_known : Nat) (a_isKept : Nat) (q_theText : Value) (q_theQuestion : Value) (q_theCastle : Value) (q_theActs : Value) (q_theTold : Value) (q_foresight : Value) (q_marchWorlds : Value) (v_theSeed : Int64) (v_now_date : Int32) (v_now_trueDay : Int32) (v_now_wasAsked : Int32) (v_now_clothState : Int32) (v_now_cracks : Int32) (v_keptMoments : (Nat → Int32)) (v_now_known : (Nat → Int32)) (v_isKept : (Nat → Int32)) (p_1 : Int32) (o : Int32 × (Nat → Int32) × (Nat → Int32)) (hm : m_X9_keep p_1 v_now_date v_now_trueDay v_now_wasAsked v_now_clothState v_now_cracks v_keptMoments v_now_known v_isKept = some o) : Met l yX9_keep wsX9_keep { frames := 2, cells := 0, slots := 0, locals := 123 } (va_Pc [.ref a_th, .int p_1] (cP (dC, dI) (kT cI cJ cZ cQ) t sz [oX9 a_th q_theText q_theQuestion q_theCastle (.ref a_now) q_theActs q_theTold q_foresight (.ref a_keptMoments) (.ref a_isKept) q_marchWorlds (.long v_theSeed), oX4 a_now (.int v_now_date) (.int v_now_trueDay) (.int v_now_wasAsked) (.int v_now_clothState) (.int v_now_cracks) (.ref a_now_known), aI cI a_keptMoments 24 v_keptMoments, aI cI a_now_known 7 v_now_known, aI cZ a_isKept 2 v_isKept])) (cQi (dC, dI) (va_A [oX9 a_th q_theText q_theQuestion q_theCastle (.ref a_now) q_theActs q_theTold q_foresight (.ref a_keptMoments) (.ref a_isKept) q_marchWorlds (.long v_theSeed), oX4 a_now (.int v_now_date) (.int v_now_trueDay) (.int v_now_wasAsked) (.int v_now_clothState) (.int v_now_cracks) (.ref a_now_known), aI cI a_keptMoments 24 v_keptMoments, aI cI a_now_known 7 v_now_known, aI cZ a_isKept 2 v_isKept] sz) o.1 [oX9 a_th q_theText q_theQuestion q_theCastle (.ref a_now) q_theActs q_theTold q_foresight (.ref a_keptMoments) (.ref a_isKept) q_marchWorlds (.long v_theSeed), oX4 a_now (.int v_now_date) (.int v_now_trueDay) (.int v_now_wasAsked) (.int v_now_clothState) (.int v_now_cracks) (.ref a_now_known), aI cI a_keptMoments 24 (o.2.1), aI cI a_now_known 7 v_now_known, aI cZ a_isKept 2 (o.2.2)]) 0 0 (va_A [oX9 a_th q_theText q_theQuestion q_theCastle (.ref a_now) q_theActs q_theTold q_foresight (.ref a_keptMoments) (.ref a_isKept) q_marchWorlds (.long v_theSeed), oX4 a_now (.int v_now_date) (.int v_now_trueDay) (.int v_now_wasAsked) (.int v_now_clothState) (.int v_now_cracks) (.ref a_now_known), aI cI a_keptMoments 24 v_keptMoments, aI cI a_now_known 7 v_now_known, aI cZ a_isKept 2 v_isKept] sz) := by
  refine Met.ofW (cc := cX9_keep) (maxL := 2) (ret := (some .int)) (by decide) rfl ?_
  intro p e s m args below meth c s₁ B hml hv
  obtain ⟨rfl, hsz, hP, hK, hD0, hG⟩ := hv
  have hx := B.exec
  have hb := B.bytes
  have hr := B.returns
  have hts := atoms_spec (ws := wsX9_keep) B.pre
  have hown : s.vm.findClass RX9 = some m.cls := findClass_of_methodNamed B.named
  have hlocks := B.notSynchronized
  subst hsz
  have hD := hD0.self (sz := s.heap.size)
  generalize hAe : va_A [oX9 a_th q_theText q_theQuestion q_theCastle (.ref a_now) q_theActs q_theTold q_foresight (.ref a_keptMoments) (.ref a_isKept) q_marchWorlds (.long v_theSeed), oX4 a_now (.int v_now_date) (.int v_now_trueDay) (.int v_now_wasAsked) (.int v_now_clothState) (.int v_now_cracks) (.ref a_now_known), aI cI a_keptMoments 24 v_keptMoments, aI cI a_now_known 7 v_now_known, aI cZ a_isKept 2 v_isKept] s.heap.size = A at hD hG ⊢
  have hA : ∀ q : Nat, s.heap.size ≤ q → A q := fun q h => by rw [← hAe]; exact Or.inr h
  have hS : va_S A s.heap s.heap [] := va_S.rf
  have hl := lv_entry ([.ref a_th, .int p_1]) (n := 2) (Nat.le_of_ble_eq_true rfl)
  rw [lg_entry_eq]
  generalize (lg_sl ([.ref a_th, .int p_1]) ++ List.replicate (2 - (lg_sl ([.ref a_th, .int p_1])).length) Slot.unset).toArray = ls at hl ⊢
  have hl : lv_has ls 2 [(0, .ref a_th), (1, .int p_1)] := hl
  have iX9 : ∀ w ∈ wsX90, w ∈ wsX9_keep := fun _ h => List.mem_cons_of_mem _ (List.mem_append_left _ (List.mem_append_right _ h))
  have iX4 : ∀ w ∈ wsX40, w ∈ wsX9_keep := fun _ h => List.mem_cons_of_mem _ (List.mem_append_right _ h)
  have f35 := hts (.fieldLink RX9 35 "TrueOnceWeek" "now" "LTrueOnceWeek$Moment;") (by decide +kernel)
  have f60 := hts (.fieldLink RX9 60 "TrueOnceWeek" "keptMoments" "[I") (by decide +kernel)
  have f64 := hts (.fieldLink RX9 64 "TrueOnceWeek" "isKept" "[Z") (by decide +kernel)
  have f113 := va_Nw.use (A := [.ref a_th, .int p_1].toArray) (w := .fieldLinkNest RX9 113 "TrueOnceWeek$Moment" "known" "[I" "TrueOnceWeek") rfl (hG.1 (RX9, 113, "TrueOnceWeek$Moment", "known", "[I") (by decide +kernel))
  refine kb_gen (fun Q hQ => ?_)
  unfold m_X9_keep at hm
  refine lv_iload_n hx hb dX9_keep_0 rfl (lv_at hl 1 rfl) ?_
  obtain ⟨r1, ho2, hm⟩ := bd1_s hm
  refine kb_calli (Rv := r1) (va_runS (As := [.int p_1]) (rest := []) ⟨hx, hb, hml, hown, hts⟩ (c_X9_isSlot l dC dI cI cJ cZ cQ t s.heap.size p_1 (r1) ho2) (va_cwS 1 hts gX9_keep_X9_isSlot rfl rfl rfl (by decide +kernel) ⟨(Nat.le_of_ble_eq_true rfl), (Nat.le_of_ble_eq_true rfl)⟩) (kb_pre hK hG hP (kb_D hD rfl) hS hA [] rfl (by decide)) rfl rfl hl.1 rfl (lv_room (Nat.le_of_ble_eq_true rfl)) dX9_keep_1 ⟨Nat.zero_le _, Nat.zero_le _⟩) hP (kb_D hD rfl) hS hA [] rfl [(false, 0), (false, 1), (false, 2), (false, 3), (false, 4)] (w2 := [oX9 a_th q_theText q_theQuestion q_theCastle (.ref a_now) q_theActs q_theTold q_foresight (.ref a_keptMoments) (.ref a_isKept) q_marchWorlds (.long v_theSeed), oX4 a_now (.int v_now_date) (.int v_now_trueDay) (.int v_now_wasAsked) (.int v_now_clothState) (.int v_now_cracks) (.ref a_now_known), aI cI a_keptMoments 24 v_keptMoments, aI cI a_now_known 7 v_now_known, aI cZ a_isKept 2 v_isKept]) rfl (by decide) (fun H locs hP hS => ?_)
  refine lv_if_ne (tgt := 9) hx hb dX9_keep_4 (by decide) (fun c3 => ?_) (fun c3 => ?_)
  · replace hm := ite_f c3 hm
    refine lv_aload_n hx hb dX9_keep_9 rfl (lv_at hl 0 rfl) ?_
    refine va_get (D := (dC, dI)) (ci := 7) (v := .ref a_now) (C := RX9) (T := TX9) (N := 11) hx hb hts iX9 hown hK hP 0 rfl rfl 3 (by decide) f35 (fun _ h9 => h9) rfl dX9_keep_10 ?_
    refine lv_aload_n hx hb dX9_keep_13 rfl (lv_at hl 0 rfl) ?_
    refine va_get (D := (dC, dI)) (ci := 7) (v := .ref a_keptMoments) (C := RX9) (T := TX9) (N := 11) hx hb hts iX9 hown hK hP 0 rfl rfl 7 (by decide) f60 (fun _ h9 => h9) rfl dX9_keep_14 ?_
    refine lv_iload_n hx hb dX9_keep_17 rfl (lv_at hl 1 rfl) ?_
    obtain ⟨w4, ho5, hm⟩ := bd1_s hm
    refine kb_callv (va_runV (As := [.ref a_keptMoments, .int p_1]) (rest := []) ⟨hx, hb, hml, hown, hts⟩ (c_X4_saveTo l dC dI cI cJ cZ cQ t H.size a_now a_keptMoments a_now_known 24 v_now_date v_now_trueDay v_now_wasAsked v_now_clothState v_now_cracks v_keptMoments v_now_known p_1 (w4) ho5) (cwV 2 hts gX9_keep_X4_saveTo rfl rfl rfl (by decide +kernel) ⟨(Nat.le_of_ble_eq_true rfl), (Nat.le_of_ble_eq_true rfl)⟩) ⟨(kb_pre hK hG hP (kb_D hD rfl) hS hA [1, 2, 3] rfl (by decide)).1, (va_recv hK hP (ci := 4) (q0 := 1) rfl rfl), (kb_pre hK hG hP (kb_D hD rfl) hS hA [1, 2, 3] rfl (by decide)).2⟩ rfl rfl hl.1 rfl (lv_room (Nat.le_of_ble_eq_true rfl)) dX9_keep_18 ⟨Nat.zero_le _, Nat.zero_le _⟩) hP (kb_D hD rfl) hS hA [1, 2, 3] rfl [(false, 0), (true, 0), (true, 1), (true, 2), (false, 4)] (w2 := [oX9 a_th q_theText q_theQuestion q_theCastle (.ref a_now) q_theActs q_theTold q_foresight (.ref a_keptMoments) (.ref a_isKept) q_marchWorlds (.long v_theSeed), oX4 a_now (.int v_now_date) (.int v_now_trueDay) (.int v_now_wasAsked) (.int v_now_clothState) (.int v_now_cracks) (.ref a_now_known), aI cI a_keptMoments 24 w4, aI cI a_now_known 7 v_now_known, aI cZ a_isKept 2 v_isKept]) rfl (by decide) (fun H locs hP hS => ?_)
    refine lv_aload_n hx hb dX9_keep_21 rfl (lv_at hl 0 rfl) ?_
    refine va_get (D := (dC, dI)) (ci := 7) (v := .ref a_isKept) (C := RX9) (T := TX9) (N := 11) hx hb hts iX9 hown hK hP 0 rfl rfl 8 (by decide) f64 (fun _ h9 => h9) rfl dX9_keep_22 ?_
    refine lv_iload_n hx hb dX9_keep_25 rfl (lv_at hl 1 rfl) ?_
    refine lv_iconst (v := (1 : Int32)) hx hb dX9_keep_26 (by decide) ?_
    obtain ⟨h6, hm⟩ := gd_s hm
    refine va_zast hx hb hK hP (kb_D hD rfl) hS 4 2 rfl rfl (inB_s h6) dX9_keep_27 (fun H locs hP _ hS => ?_)
    have hP : va_P (dC, dI) vwCl [oX9 a_th q_theText q_theQuestion q_theCastle (.ref a_now) q_theActs q_theTold q_foresight (.ref a_keptMoments) (.ref a_isKept) q_marchWorlds (.long v_theSeed), oX4 a_now (.int v_now_date) (.int v_now_trueDay) (.int v_now_wasAsked) (.int v_now_clothState) (.int v_now_cracks) (.ref a_now_known), aI cI a_keptMoments 24 w4, aI cI a_now_known 7 v_now_known, aI cZ a_isKept 2 (upd v_isKept (Int32.toNatClampNeg p_1) (vp_nar .boolean (1 : Int32)))] H := hP
    refine lv_aload_n hx hb dX9_keep_28 rfl (lv_at hl 0 rfl) ?_
    refine va_get (D := (dC, dI)) (ci := 7) (v := .ref a_now) (C := RX9) (T := TX9) (N := 11) hx hb hts iX9 hown hK hP 0 rfl rfl 3 (by decide) f35 (fun _ h9 => h9) rfl dX9_keep_29 ?_
    refine va_getN (D := (dC, dI)) (ci := 4) (v := .ref a_now_known) (C := RX4) (T := TX4) (N := 6) hx hb hts iX4 hown hK hP 1 rfl rfl 5 (by decide) f113 (fun _ h9 => h9) rfl dX9_keep_32 ?_
    obtain ⟨r7, ho8, hm⟩ := bd1_s hm
    refine kb_calli (Rv := r7) (va_runS (As := [.ref a_now_known]) (rest := []) ⟨hx, hb, hml, hown, hts⟩ (c_X8_count l dC dI cI cJ cZ cQ t H.size a_now_known 7 v_now_known (r7) ho8) (va_cwS 1 hts gX9_keep_X8_count rfl rfl rfl (by decide +kernel) ⟨(Nat.le_of_ble_eq_true rfl), (Nat.le_of_ble_eq_true rfl)⟩) (kb_pre hK hG hP (kb_D hD rfl) hS hA [3] rfl (by decide)) rfl rfl hl.1 rfl (lv_room (Nat.le_of_ble_eq_true rfl)) dX9_keep_35 ⟨Nat.zero_le _, Nat.zero_le _⟩) hP (kb_D hD rfl) hS hA [3] rfl [(false, 0), (false, 1), (false, 2), (true, 0), (false, 4)] (w2 := [oX9 a_th q_theText q_theQuestion q_theCastle (.ref a_now) q_theActs q_theTold q_foresight (.ref a_keptMoments) (.ref a_isKept) q_marchWorlds (.long v_theSeed), oX4 a_now (.int v_now_date) (.int v_now_trueDay) (.int v_now_wasAsked) (.int v_now_clothState) (.int v_now_cracks) (.ref a_now_known), aI cI a_keptMoments 24 w4, aI cI a_now_known 7 v_now_known, aI cZ a_isKept 2 (upd v_isKept (Int32.toNatClampNeg p_1) (vp_nar .boolean (1 : Int32)))]) rfl (by decide) (fun H locs hP hS => ?_)
    obtain rfl := Option.some.inj hm
    subst hQ
    exact W.iret hx hb hr (fun t ht hW => ⟨⟨_, (), rfl, rfl, kb_h hP ht⟩, hS.F ht⟩) hS.2.2 dX9_keep_38
  · replace hm := ite_t c3 hm
    refine lv_iconst (v := (-1 : Int32)) hx hb dX9_keep_7 (by decide) ?_
    obtain rfl := Option.some.inj hm
    subst hQ
    exact W.iret hx hb hr (fun t ht hW => ⟨⟨_, (), rfl, rfl, kb_h hP ht⟩, hS.F ht⟩) hS.2.2 dX9_keep_8
