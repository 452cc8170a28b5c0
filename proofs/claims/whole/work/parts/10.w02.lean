set_option maxHeartbeats 4000000 in
set_option maxRecDepth 100000 in
theorem c_X9_answerAt (l : Launch) (dC : Nat → ClassId) (dI : Nat → Nat → Nat) (cI cJ cZ cQ : ClassId) (t sz : Nat) (p_0 : Int32) (p_1 : Int32) (p_2 : Int32) (o : Int32) (hm : m_X9_answerAt p_0 p_1 p_2 = some o) : Met l yX9_answerAt wsX9_answerAt { frames := 0, cells := 0, slots := 0, locals := 0 } (va_Pc [.int p_0, .int p_1, .int p_2] (cP (dC, dI) (kT cI cJ cZ cQ) t sz [])) (cQi (dC, dI) (va_A [] sz) o []) 0 0 (va_A [] sz) := by
  refine Met.ofW (cc := cX9_answerAt) (maxL := 3) (ret := (some .int)) (by decide) rfl ?_
  intro p e s m args below meth c s₁ B hml hv
  obtain ⟨rfl, hsz, hP, hK, hD0, hG⟩ := hv
  have hx := B.exec
  have hb := B.bytes
  have hr := B.returns
  have hts := atoms_spec (ws := wsX9_answerAt) B.pre
  have hown : s.vm.findClass RX9 = some m.cls := findClass_of_methodNamed B.named
  have hlocks := B.notSynchronized
  subst hsz
  have hD := hD0.self (sz := s.heap.size)
  generalize hAe : va_A [] s.heap.size = A at hD hG ⊢
  have hA : ∀ q : Nat, s.heap.size ≤ q → A q := fun q h => by rw [← hAe]; exact Or.inr h
  have hS : va_S A s.heap s.heap [] := va_S.rf
  have hl := lv_entry ([.int p_0, .int p_1, .int p_2]) (n := 3) (Nat.le_of_ble_eq_true rfl)
  rw [lg_entry_eq]
  generalize (lg_sl ([.int p_0, .int p_1, .int p_2]) ++ List.replicate (3 - (lg_sl ([.int p_0, .int p_1, .int p_2])).length) Slot.unset).toArray = ls at hl ⊢
  have hl : lv_has ls 3 [(0, .int p_0), (1, .int p_1), (2, .int p_2)] := hl
  refine kb_gen (fun Q hQ => ?_)
  unfold m_X9_answerAt at hm
  refine lv_iload_n hx hb dX9_answerAt_0 rfl (lv_at hl 1 rfl) ?_
  refine lv_iload_n hx hb dX9_answerAt_1 rfl (lv_at hl 0 rfl) ?_
  refine lv_iushr (v := (j_iushr p_1 p_0)) hx hb dX9_answerAt_2 rfl ?_
  refine lv_iconst (v := (1 : Int32)) hx hb dX9_answerAt_3 (by decide) ?_
  refine lv_iand hx hb dX9_answerAt_4 ?_
  refine lv_iconst (v := (1 : Int32)) hx hb dX9_answerAt_5 (by decide) ?_
  refine lv_icmp_ne (tgt := 11) hx hb dX9_answerAt_6 (by decide) (fun c1 => ?_) (fun c1 => ?_)
  · replace hm := ite_f c1 hm
    refine lv_iload_n hx hb dX9_answerAt_11 rfl (lv_at hl 2 rfl) ?_
    refine lv_iload_n hx hb dX9_answerAt_12 rfl (lv_at hl 0 rfl) ?_
    refine lv_iushr (v := (j_iushr p_2 p_0)) hx hb dX9_answerAt_13 rfl ?_
    refine lv_iconst (v := (1 : Int32)) hx hb dX9_answerAt_14 (by decide) ?_
    refine lv_iand hx hb dX9_answerAt_15 ?_
    refine lv_iconst (v := (1 : Int32)) hx hb dX9_answerAt_16 (by decide) ?_
    refine lv_icmp_ne (tgt := 24) hx hb dX9_answerAt_17 (by decide) (fun c2 => ?_) (fun c2 => ?_)
    · replace hm := ite_f c2 hm
      refine lv_iconst (v := (2 : Int32)) hx hb dX9_answerAt_24 (by decide) ?_
      obtain rfl := Option.some.inj hm
      subst hQ
      exact W.iret hx hb hr (fun t ht hW => ⟨⟨_, (), rfl, rfl, kb_h hP ht⟩, hS.F ht⟩) hS.2.2 dX9_answerAt_25
    · replace hm := ite_t c2 hm
      refine lv_iconst (v := (0 : Int32)) hx hb dX9_answerAt_20 (by decide) ?_
      refine lv_goto (tgt := 25) hx hb dX9_answerAt_21 (by decide) ?_
      obtain rfl := Option.some.inj hm
      subst hQ
      exact W.iret hx hb hr (fun t ht hW => ⟨⟨_, (), rfl, rfl, kb_h hP ht⟩, hS.F ht⟩) hS.2.2 dX9_answerAt_25
  · replace hm := ite_t c1 hm
    refine lv_iconst (v := (1 : Int32)) hx hb dX9_answerAt_9 (by decide) ?_
    obtain rfl := Option.some.inj hm
    subst hQ
    exact W.iret hx hb hr (fun t ht hW => ⟨⟨_, (), rfl, rfl, kb_h hP ht⟩, hS.F ht⟩) hS.2.2 dX9_answerAt_10
set_option maxHeartbeats 4000000 in
set_option maxRecDepth 100000 in
theorem c_X5_answerIn (l : Launch) (dC : Nat → ClassId) (dI : Nat → Nat → Nat) (cI cJ cZ cQ : ClassId) (t sz : Nat) (a_th : Nat) (a_letters : Nat) (a_letters_bytes : Nat) (a_stack : Nat) (n_letters_bytes : Nat) (v_letters_length : Int32) (v_letters_bytes : (Nat → Int32)) (v_stack : (Nat → Int32)) (p_1 : Int32) (p_2 : Int32) (p_3 : Int32) (p_4 : Int32) (o : Int32 × (Nat → Int32)) (hm : m_X5_answerIn p_1 p_2 p_3 p_4 n_letters_bytes v_letters_length v_letters_bytes v_stack = some o) : Met l yX5_answerIn wsX5_answerIn { frames := 4, cells := 0, slots := 0, locals := 95 } (va_Pc [.ref a_th, .int p_1, .int p_2, .int p_3, .int p_4] (cP (dC, dI) (kT cI cJ cZ cQ) t sz [oX5 a_th (.ref a_letters) (.ref a_stack), oX3 a_letters (.ref a_letters_bytes) (.int v_letters_length), aI cI a_letters_bytes n_letters_bytes v_letters_bytes, aI cI a_stack 16 v_stack])) (cQi (dC, dI) (va_A [oX5 a_th (.ref a_letters) (.ref a_stack), oX3 a_letters (.ref a_letters_bytes) (.int v_letters_length), aI cI a_letters_bytes n_letters_bytes v_letters_bytes, aI cI a_stack 16 v_stack] sz) o.1 [oX5 a_th (.ref a_letters) (.ref a_stack), oX3 a_letters (.ref a_letters_bytes) (.int v_letters_length), aI cI a_letters_bytes n_letters_bytes v_letters_bytes, aI cI a_stack 16 (o.2)]) 0 0 (va_A [oX5 a_th (.ref a_letters) (.ref a_stack), oX3 a_letters (.ref a_letters_bytes) (.int v_letters_length), aI cI a_letters_bytes n_letters_bytes v_letters_bytes, aI cI a_stack 16 v_stack] sz) := by
  refine Met.ofW (cc := cX5_answerIn) (maxL := 5) (ret := (some .int)) (by decide) rfl ?_
  intro p e s m args below meth c s₁ B hml hv
  obtain ⟨rfl, hsz, hP, hK, hD0, hG⟩ := hv
  have hx := B.exec
  have hb := B.bytes
  have hr := B.returns
  have hts := atoms_spec (ws := wsX5_answerIn) B.pre
  have hown : s.vm.findClass RX5 = some m.cls := findClass_of_methodNamed B.named
  have hlocks := B.notSynchronized
  subst hsz
  have hD := hD0.self (sz := s.heap.size)
  generalize hAe : va_A [oX5 a_th (.ref a_letters) (.ref a_stack), oX3 a_letters (.ref a_letters_bytes) (.int v_letters_length), aI cI a_letters_bytes n_letters_bytes v_letters_bytes, aI cI a_stack 16 v_stack] s.heap.size = A at hD hG ⊢
  have hA : ∀ q : Nat, s.heap.size ≤ q → A q := fun q h => by rw [← hAe]; exact Or.inr h
  have hS : va_S A s.heap s.heap [] := va_S.rf
  have hl := lv_entry ([.ref a_th, .int p_1, .int p_2, .int p_3, .int p_4]) (n := 5) (Nat.le_of_ble_eq_true rfl)
  rw [lg_entry_eq]
  generalize (lg_sl ([.ref a_th, .int p_1, .int p_2, .int p_3, .int p_4]) ++ List.replicate (5 - (lg_sl ([.ref a_th, .int p_1, .int p_2, .int p_3, .int p_4])).length) Slot.unset).toArray = ls at hl ⊢
  have hl : lv_has ls 5 [(0, .ref a_th), (1, .int p_1), (2, .int p_2), (3, .int p_3), (4, .int p_4)] := hl
  have iX5 : ∀ w ∈ wsX50, w ∈ wsX5_answerIn := fun _ h => List.mem_cons_of_mem _ (List.mem_append_left _ (List.mem_append_right _ h))
  have iX3 : ∀ w ∈ wsX30, w ∈ wsX5_answerIn := fun _ h => List.mem_cons_of_mem _ (List.mem_append_right _ h)
  have nl68 := (hG.2.1 (RX5, 68, yX9_answerAt) (by decide +kernel) : va_Nw (.methodLinkNest RX5 68 yX9_answerAt "TrueOnceWeek") s)
  have ni68 := hts (.initialized RX9) (by decide +kernel)
  have ns68 := hts (.static yX9_answerAt) (by decide +kernel)
  refine kb_gen (fun Q hQ => ?_)
  unfold m_X5_answerIn at hm
  refine lv_iload_n hx hb dX5_answerIn_0 rfl (lv_at hl 3 rfl) ?_
  refine lv_aload_n hx hb dX5_answerIn_1 rfl (lv_at hl 0 rfl) ?_
  refine lv_iconst (v := (1 : Int32)) hx hb dX5_answerIn_2 (by decide) ?_
  refine lv_iload_n hx hb dX5_answerIn_3 rfl (lv_at hl 1 rfl) ?_
  refine lv_iload_n hx hb dX5_answerIn_4 rfl (lv_at hl 2 rfl) ?_
  refine lv_iload hx hb dX5_answerIn_5 (lv_at hl 4 rfl) ?_
  obtain ⟨r1, w2, ho3, hm⟩ := bd2_s hm
  refine kb_calli (Rv := r1) (va_runV (As := [.int (1 : Int32), .int p_1, .int p_2, .int p_4]) (rest := [.int p_3]) ⟨hx, hb, hml, hown, hts⟩ (c_X5_casesAnswered l dC dI cI cJ cZ cQ t s.heap.size a_th a_letters a_letters_bytes a_stack n_letters_bytes v_letters_length v_letters_bytes v_stack (1 : Int32) p_1 p_2 p_4 (r1, w2) ho3) (cwV 4 hts gX5_answerIn_X5_casesAnswered rfl rfl rfl (by decide +kernel) ⟨(Nat.le_of_ble_eq_true rfl), (Nat.le_of_ble_eq_true rfl)⟩) ⟨(kb_pre hK hG hP (kb_D hD rfl) hS hA [0, 1, 2, 3] rfl (by decide)).1, (va_recv hK hP (ci := 5) (q0 := 0) rfl rfl), (kb_pre hK hG hP (kb_D hD rfl) hS hA [0, 1, 2, 3] rfl (by decide)).2⟩ rfl rfl hl.1 rfl (lv_room (Nat.le_of_ble_eq_true rfl)) dX5_answerIn_7 ⟨Nat.zero_le _, Nat.zero_le _⟩) hP (kb_D hD rfl) hS hA [0, 1, 2, 3] rfl [(true, 0), (true, 1), (true, 2), (true, 3)] (w2 := [oX5 a_th (.ref a_letters) (.ref a_stack), oX3 a_letters (.ref a_letters_bytes) (.int v_letters_length), aI cI a_letters_bytes n_letters_bytes v_letters_bytes, aI cI a_stack 16 w2]) rfl (by decide) (fun H locs hP hS => ?_)
  refine lv_aload_n hx hb dX5_answerIn_10 rfl (lv_at hl 0 rfl) ?_
  refine lv_iconst (v := (0 : Int32)) hx hb dX5_answerIn_11 (by decide) ?_
  refine lv_iload_n hx hb dX5_answerIn_12 rfl (lv_at hl 1 rfl) ?_
  refine lv_iload_n hx hb dX5_answerIn_13 rfl (lv_at hl 2 rfl) ?_
  refine lv_iload hx hb dX5_answerIn_14 (lv_at hl 4 rfl) ?_
  obtain ⟨r4, w5, ho6, hm⟩ := bd2_s hm
  refine kb_calli (Rv := r4) (va_runV (As := [.int (0 : Int32), .int p_1, .int p_2, .int p_4]) (rest := [.int r1, .int p_3]) ⟨hx, hb, hml, hown, hts⟩ (c_X5_casesAnswered l dC dI cI cJ cZ cQ t H.size a_th a_letters a_letters_bytes a_stack n_letters_bytes v_letters_length v_letters_bytes w2 (0 : Int32) p_1 p_2 p_4 (r4, w5) ho6) (cwV 4 hts gX5_answerIn_X5_casesAnswered rfl rfl rfl (by decide +kernel) ⟨(Nat.le_of_ble_eq_true rfl), (Nat.le_of_ble_eq_true rfl)⟩) ⟨(kb_pre hK hG hP (kb_D hD rfl) hS hA [0, 1, 2, 3] rfl (by decide)).1, (va_recv hK hP (ci := 5) (q0 := 0) rfl rfl), (kb_pre hK hG hP (kb_D hD rfl) hS hA [0, 1, 2, 3] rfl (by decide)).2⟩ rfl rfl hl.1 rfl (lv_room (Nat.le_of_ble_eq_true rfl)) dX5_answerIn_16 ⟨Nat.zero_le _, Nat.zero_le _⟩) hP (kb_D hD rfl) hS hA [0, 1, 2, 3] rfl [(true, 0), (true, 1), (true, 2), (true, 3)] (w2 := [oX5 a_th (.ref a_letters) (.ref a_stack), oX3 a_letters (.ref a_letters_bytes) (.int v_letters_length), aI cI a_letters_bytes n_letters_bytes v_letters_bytes, aI cI a_stack 16 w5]) rfl (by decide) (fun H locs hP hS => ?_)
  obtain ⟨r7, ho8, hm⟩ := bd1_s hm
  refine kb_calli (Rv := r7) (va_runSN (As := [.int p_3, .int r1, .int r4]) (rest := []) ⟨hx, hb, hml, hown, hts⟩ (c_X9_answerAt l dC dI cI cJ cZ cQ t H.size p_3 r1 r4 (r7) ho8) ⟨va_cnB (ret := (some .int)) (maxL := 3) 3 hts gX5_answerIn_X9_answerAt_n68 rfl rfl rfl nl68 ni68 (by decide +kernel) ⟨(Nat.le_of_ble_eq_true rfl), (Nat.le_of_ble_eq_true rfl)⟩, ns68, trivial⟩ (kb_pre hK hG hP (kb_D hD rfl) hS hA [] rfl (by decide)) rfl rfl hl.1 rfl (lv_room (Nat.le_of_ble_eq_true rfl)) dX5_answerIn_19 ⟨Nat.zero_le _, Nat.zero_le _⟩) hP (kb_D hD rfl) hS hA [] rfl [(false, 0), (false, 1), (false, 2), (false, 3)] (w2 := [oX5 a_th (.ref a_letters) (.ref a_stack), oX3 a_letters (.ref a_letters_bytes) (.int v_letters_length), aI cI a_letters_bytes n_letters_bytes v_letters_bytes, aI cI a_stack 16 w5]) rfl (by decide) (fun H locs hP hS => ?_)
  obtain rfl := Option.some.inj hm
  subst hQ
  exact W.iret hx hb hr (fun t ht hW => ⟨⟨_, (), rfl, rfl, kb_h hP ht⟩, hS.F ht⟩) hS.2.2 dX5_answerIn_22
set_option maxHeartbeats 4000000 in
set_option maxRecDepth 100000 in
theorem c_X9_told (l : Launch) (dC : Nat → ClassId) (dI : Nat → Nat → Nat) (cI cJ cZ cQ : ClassId) (t sz : Nat) (p_0 : Int32) (o : Int32) (hm : m_X9_told p_0 = some o) : Met l yX9_told wsX9_told { frames := 0, cells := 0, slots := 0, locals := 0 } (va_Pc [.int p_0] (cP (dC, dI) (kT cI cJ cZ cQ) t sz [])) (cQi (dC, dI) (va_A [] sz) o []) 0 0 (va_A [] sz) := by
  refine Met.ofW (cc := cX9_told) (maxL := 1) (ret := (some .int)) (by decide) rfl ?_
  intro p e s m args below meth c s₁ B hml hv
  obtain ⟨rfl, hsz, hP, hK, hD0, hG⟩ := hv
  have hx := B.exec
  have hb := B.bytes
  have hr := B.returns
  have hts := atoms_spec (ws := wsX9_told) B.pre
  have hown : s.vm.findClass RX9 = some m.cls := findClass_of_methodNamed B.named
  have hlocks := B.notSynchronized
  subst hsz
  have hD := hD0.self (sz := s.heap.size)
  generalize hAe : va_A [] s.heap.size = A at hD hG ⊢
  have hA : ∀ q : Nat, s.heap.size ≤ q → A q := fun q h => by rw [← hAe]; exact Or.inr h
  have hS : va_S A s.heap s.heap [] := va_S.rf
  have hl := lv_entry ([.int p_0]) (n := 1) (Nat.le_of_ble_eq_true rfl)
  rw [lg_entry_eq]
  generalize (lg_sl ([.int p_0]) ++ List.replicate (1 - (lg_sl ([.int p_0])).length) Slot.unset).toArray = ls at hl ⊢
  have hl : lv_has ls 1 [(0, .int p_0)] := hl
  refine kb_gen (fun Q hQ => ?_)
  unfold m_X9_told at hm
  refine lv_iload_n hx hb dX9_told_0 rfl (lv_at hl 0 rfl) ?_
  refine lv_iconst (v := (2 : Int32)) hx hb dX9_told_1 (by decide) ?_
  refine lv_icmp_ne (tgt := 10) hx hb dX9_told_2 (by decide) (fun c1 => ?_) (fun c1 => ?_)
  · replace hm := ite_f c1 hm
    refine lv_iload_n hx hb dX9_told_10 rfl (lv_at hl 0 rfl) ?_
    obtain rfl := Option.some.inj hm
    subst hQ
    exact W.iret hx hb hr (fun t ht hW => ⟨⟨_, (), rfl, rfl, kb_h hP ht⟩, hS.F ht⟩) hS.2.2 dX9_told_11
  · replace hm := ite_t c1 hm
    refine lv_bipush (v := (-9 : Int32)) hx hb dX9_told_5 (by decide) ?_
    refine lv_goto (tgt := 11) hx hb dX9_told_7 (by decide) ?_
    obtain rfl := Option.some.inj hm
    subst hQ
    exact W.iret hx hb hr (fun t ht hW => ⟨⟨_, (), rfl, rfl, kb_h hP ht⟩, hS.F ht⟩) hS.2.2 dX9_told_11
set_option maxHeartbeats 4000000 in
set_option maxRecDepth 100000 in
theorem c_X9_ask (l : Launch) (dC : Nat → ClassId) (dI : Nat → Nat → Nat) (cI cJ cZ cQ : ClassId) (t sz : Nat) (a_th : Nat) (a_theQuestion : Nat) (a_theQuestion_letters : Nat) (a_theQuestion_letters_bytes : Nat) (a_theCastle : Nat) (a_now : Nat) (a_theActs : Nat) (a_theActs_moments : Nat) (a_now_known : Nat) (a_theActs_seeds : Nat) (a_theQuestion_stack : Nat) (n_theQuestion_letters_bytes : Nat) (q_theText : Value) (q_theTold : Value) (q_foresight : Value) (q_keptMoments : Value) (q_isKept : Value) (q_marchWorlds : Value) (v_theSeed : Int64) (v_theQuestion_letters_length : Int32) (v_theQuestion_letters_bytes : (Nat → Int32)) (v_theCastle_facts : Int32) (v_theCastle_so : Int32) (v_theCastle_common : Int32) (v_theCastle_cases : Int32) (v_theCastle_firstTrueDay : Int32) (v_now_date : Int32) (v_now_trueDay : Int32) (v_now_wasAsked : Int32) (v_now_clothState : Int32) (v_now_cracks : Int32) (v_theActs_next : Int32) (v_theActs_count : Int32) (v_theActs_moments : (Nat → Int32)) (v_now_known : (Nat → Int32)) (v_theActs_seeds : (Nat → Int64)) (v_theQuestion_stack : (Nat → Int32)) (o : Int32 × Int32 × Int32 × Int32 × Int32 × (Nat → Int32) × (Nat → Int32) × (Nat → Int64) × (Nat → Int32)) (hm : m_X9_ask n_theQuestion_letters_bytes v_theSeed v_theQuestion_letters_length v_theQuestion_letters_bytes v_theCastle_facts v_theCastle_so v_now_date v_now_trueDay v_now_wasAsked v_now_clothState v_now_cracks v_theActs_next v_theActs_count v_theActs_moments v_now_known v_theActs_seeds v_theQuestion_stack = some o) : Met l yX9_ask wsX9_ask { frames := 5, cells := 0, slots := 0, locals := 146 } (va_Pc [.ref a_th] (cP (dC, dI) (kT cI cJ cZ cQ) t sz [oX9 a_th q_theText (.ref a_theQuestion) (.ref a_theCastle) (.ref a_now) (.ref a_theActs) q_theTold q_foresight q_keptMoments q_isKept q_marchWorlds (.long v_theSeed), oX5 a_theQuestion (.ref a_theQuestion_letters) (.ref a_theQuestion_stack), oX3 a_theQuestion_letters (.ref a_theQuestion_letters_bytes) (.int v_theQuestion_letters_length), aI cI a_theQuestion_letters_bytes n_theQuestion_letters_bytes v_theQuestion_letters_bytes, oX1 a_theCastle (.int v_theCastle_facts) (.int v_theCastle_so) (.int v_theCastle_common) (.int v_theCastle_cases) (.int v_theCastle_firstTrueDay), oX4 a_now (.int v_now_date) (.int v_now_trueDay) (.int v_now_wasAsked) (.int v_now_clothState) (.int v_now_cracks) (.ref a_now_known), oX0 a_theActs (.ref a_theActs_moments) (.ref a_theActs_seeds) (.int v_theActs_next) (.int v_theActs_count), aI cI a_theActs_moments 120 v_theActs_moments, aI cI a_now_known 7 v_now_known, aJ cJ a_theActs_seeds 10 v_theActs_seeds, aI cI a_theQuestion_stack 16 v_theQuestion_stack])) (cQi (dC, dI) (va_A [oX9 a_th q_theText (.ref a_theQuestion) (.ref a_theCastle) (.ref a_now) (.ref a_theActs) q_theTold q_foresight q_keptMoments q_isKept q_marchWorlds (.long v_theSeed), oX5 a_theQuestion (.ref a_theQuestion_letters) (.ref a_theQuestion_stack), oX3 a_theQuestion_letters (.ref a_theQuestion_letters_bytes) (.int v_theQuestion_letters_length), aI cI a_theQuestion_letters_bytes n_theQuestion_letters_bytes v_theQuestion_letters_bytes, oX1 a_theCastle (.int v_theCastle_facts) (.int v_theCastle_so) (.int v_theCastle_common) (.int v_theCastle_cases) (.int v_theCastle_firstTrueDay), oX4 a_now (.int v_now_date) (.int v_now_trueDay) (.int v_now_wasAsked) (.int v_now_clothState) (.int v_now_cracks) (.ref a_now_known), oX0 a_theActs (.ref a_theActs_moments) (.ref a_theActs_seeds) (.int v_theActs_next) (.int v_theActs_count), aI cI a_theActs_moments 120 v_theActs_moments, aI cI a_now_known 7 v_now_known, aJ cJ a_theActs_seeds 10 v_theActs_seeds, aI cI a_theQuestion_stack 16 v_theQuestion_stack] sz) o.1 [oX9 a_th q_theText (.ref a_theQuestion) (.ref a_theCastle) (.ref a_now) (.ref a_theActs) q_theTold q_foresight q_keptMoments q_isKept q_marchWorlds (.long v_theSeed), oX5 a_theQuestion (.ref a_theQuestion_letters) (.ref a_theQuestion_stack), oX3 a_theQuestion_letters (.ref a_theQuestion_letters_bytes) (.int v_theQuestion_letters_length), aI cI a_theQuestion_letters_bytes n_theQuestion_letters_bytes v_theQuestion_letters_bytes, oX1 a_theCastle (.int v_theCastle_facts) (.int v_theCastle_so) (.int v_theCastle_common) (.int v_theCastle_cases) (.int v_theCastle_firstTrueDay), oX4 a_now (.int v_now_date) (.int v_now_trueDay) (.int (o.2.1)) (.int v_now_clothState) (.int (o.2.2.1)) (.ref a_now_known), oX0 a_theActs (.ref a_theActs_moments) (.ref a_theActs_seeds) (.int (o.2.2.2.1)) (.int (o.2.2.2.2.1)), aI cI a_theActs_moments 120 (o.2.2.2.2.2.1), aI cI a_now_known 7 (o.2.2.2.2.2.2.1), aJ cJ a_theActs_seeds 10 (o.2.2.2.2.2.2.2.1), aI cI a_theQuestion_stack 16 (o.2.2.2.2.2.2.2.2)]) 0 0 (va_A [oX9 a_th q_theText (.ref a_theQuestion) (.ref a_theCastle) (.ref a_now) (.ref a_theActs) q_theTold q_foresight q_keptMoments q_isKept q_marchWorlds (.long v_theSeed), oX5 a_theQuestion (.ref a_theQuestion_letters) (.ref a_theQuestion_stack), oX3 a_theQuestion_letters (.ref a_theQuestion_letters_bytes) (.int v_theQuestion_letters_length), aI cI a_theQuestion_letters_bytes n_theQuestion_letters_bytes v_theQuestion_letters_bytes, oX1 a_theCastle (.int v_theCastle_facts) (.int v_theCastle_so) (.int v_theCastle_common) (.int v_theCastle_cases) (.int v_theCastle_firstTrueDay), oX4 a_now (.int v_now_date) (.int v_now_trueDay) (.int v_now_wasAsked) (.int v_now_clothState) (.int v_now_cracks) (.ref a_now_known), oX0 a_theActs (.ref a_theActs_moments) (.ref a_theActs_seeds) (.int v_theActs_next) (.int v_theActs_count), aI cI a_theActs_moments 120 v_theActs_moments, aI cI a_now_known 7 v_now_known, aJ cJ a_theActs_seeds 10 v_theActs_seeds, aI cI a_theQuestion_stack 16 v_theQuestion_stack] sz) := by
  refine Met.ofW (cc := cX9_ask) (maxL := 4) (ret := (some .int)) (by decide) rfl ?_
  intro p e s m args below meth c s₁ B hml hv
  obtain ⟨rfl, hsz, hP, hK, hD0, hG⟩ := hv
  have hx := B.exec
  have hb := B.bytes
  have hr := B.returns
  have hts := atoms_spec (ws := wsX9_ask) B.pre
  have hown : s.vm.findClass RX9 = some m.cls := findClass_of_methodNamed B.named
  have hlocks := B.notSynchronized
  subst hsz
  have hD := hD0.self (sz := s.heap.size)
  generalize hAe : va_A [oX9 a_th q_theText (.ref a_theQuestion) (.ref a_theCastle) (.ref a_now) (.ref a_theActs) q_theTold q_foresight q_keptMoments q_isKept q_marchWorlds (.long v_theSeed), oX5 a_theQuestion (.ref a_theQuestion_letters) (.ref a_theQuestion_stack), oX3 a_theQuestion_letters (.ref a_theQuestion_letters_bytes) (.int v_theQuestion_letters_length), aI cI a_theQuestion_letters_bytes n_theQuestion_letters_bytes v_theQuestion_letters_bytes, oX1 a_theCastle (.int v_theCastle_facts) (.int v_theCastle_so) (.int v_theCastle_common) (.int v_theCastle_cases) (.int v_theCastle_firstTrueDay), oX4 a_now (.int v_now_date) (.int v_now_trueDay) (.int v_now_wasAsked) (.int v_now_clothState) (.int v_now_cracks) (.ref a_now_known), oX0 a_theActs (.ref a_theActs_moments) (.ref a_theActs_seeds) (.int v_theActs_next) (.int v_theActs_count), aI cI a_theActs_moments 120 v_theActs_moments, aI cI a_now_known 7 v_now_known, aJ cJ a_theActs_seeds 10 v_theActs_seeds, aI cI a_theQuestion_stack 16 v_theQuestion_stack] s.heap.size = A at hD hG ⊢
  have hA : ∀ q : Nat, s.heap.size ≤ q → A q := fun q h => by rw [← hAe]; exact Or.inr h
  have hS : va_S A s.heap s.heap [] := va_S.rf
  have hl := lv_entry ([.ref a_th]) (n := 4) (Nat.le_of_ble_eq_true rfl)
  rw [lg_entry_eq]
  generalize (lg_sl ([.ref a_th]) ++ List.replicate (4 - (lg_sl ([.ref a_th])).length) Slot.unset).toArray = ls at hl ⊢
  have hl : lv_has ls 4 [(0, .ref a_th)] := hl
  have iX9 : ∀ w ∈ wsX90, w ∈ wsX9_ask := fun _ h => List.mem_cons_of_mem _ (List.mem_append_left _ (List.mem_append_left _ (List.mem_append_left _ (List.mem_append_left _ (List.mem_append_left _ (List.mem_append_right _ h))))))
  have iX4 : ∀ w ∈ wsX40, w ∈ wsX9_ask := fun _ h => List.mem_cons_of_mem _ (List.mem_append_left _ (List.mem_append_left _ (List.mem_append_left _ (List.mem_append_left _ (List.mem_append_right _ h)))))
  have iX1 : ∀ w ∈ wsX10, w ∈ wsX9_ask := fun _ h => List.mem_cons_of_mem _ (List.mem_append_left _ (List.mem_append_left _ (List.mem_append_left _ (List.mem_append_right _ h))))
  have iX5 : ∀ w ∈ wsX50, w ∈ wsX9_ask := fun _ h => List.mem_cons_of_mem _ (List.mem_append_left _ (List.mem_append_left _ (List.mem_append_right _ h)))
  have iX3 : ∀ w ∈ wsX30, w ∈ wsX9_ask := fun _ h => List.mem_cons_of_mem _ (List.mem_append_left _ (List.mem_append_right _ h))
  have iX0 : ∀ w ∈ wsX00, w ∈ wsX9_ask := fun _ h => List.mem_cons_of_mem _ (List.mem_append_right _ h)
  have f35 := hts (.fieldLink RX9 35 "TrueOnceWeek" "now" "LTrueOnceWeek$Moment;") (by decide +kernel)
  have f42 := hts (.fieldLink RX9 42 "TrueOnceWeek" "theActs" "LTrueOnceWeek$Acts;") (by decide +kernel)
  have f174 := hts (.fieldLink RX9 174 "TrueOnceWeek" "theSeed" "J") (by decide +kernel)
  have f21 := hts (.fieldLink RX9 21 "TrueOnceWeek" "theQuestion" "LTrueOnceWeek$Question;") (by decide +kernel)
  have f141 := va_Nw.use (A := [.ref a_th].toArray) (w := .fieldLinkNest RX9 141 "TrueOnceWeek$Moment" "trueDay" "I" "TrueOnceWeek") rfl (hG.1 (RX9, 141, "TrueOnceWeek$Moment", "trueDay", "I") (by decide +kernel))
  have f28 := hts (.fieldLink RX9 28 "TrueOnceWeek" "theCastle" "LTrueOnceWeek$Castle;") (by decide +kernel)
  have f148 := va_Nw.use (A := [.ref a_th].toArray) (w := .fieldLinkNest RX9 148 "TrueOnceWeek$Castle" "so" "I" "TrueOnceWeek") rfl (hG.1 (RX9, 148, "TrueOnceWeek$Castle", "so", "I") (by decide +kernel))
  have f113 := va_Nw.use (A := [.ref a_th].toArray) (w := .fieldLinkNest RX9 113 "TrueOnceWeek$Moment" "known" "[I" "TrueOnceWeek") rfl (hG.1 (RX9, 113, "TrueOnceWeek$Moment", "known", "[I") (by decide +kernel))
  have f122 := va_Nw.use (A := [.ref a_th].toArray) (w := .fieldLinkNest RX9 122 "TrueOnceWeek$Moment" "wasAsked" "Z" "TrueOnceWeek") rfl (hG.1 (RX9, 122, "TrueOnceWeek$Moment", "wasAsked", "Z") (by decide +kernel))
  have f129 := va_Nw.use (A := [.ref a_th].toArray) (w := .fieldLinkNest RX9 129 "TrueOnceWeek$Moment" "cracks" "I" "TrueOnceWeek") rfl (hG.1 (RX9, 129, "TrueOnceWeek$Moment", "cracks", "I") (by decide +kernel))
  refine kb_gen (fun Q hQ => ?_)
  unfold m_X9_ask at hm
  refine lv_aload_n hx hb dX9_ask_0 rfl (lv_at hl 0 rfl) ?_
  obtain ⟨r1, ho2, hm⟩ := bd1_s hm
  refine kb_calli (Rv := r1) (va_runV (As := []) (rest := []) ⟨hx, hb, hml, hown, hts⟩ (c_X9_hasSlip l dC dI cI cJ cZ cQ t s.heap.size a_th a_theQuestion a_theQuestion_letters a_theQuestion_letters_bytes a_theCastle n_theQuestion_letters_bytes q_theText (.ref a_now) (.ref a_theActs) q_theTold q_foresight q_keptMoments q_isKept q_marchWorlds (.ref a_theQuestion_stack) v_theSeed v_theQuestion_letters_length v_theQuestion_letters_bytes v_theCastle_facts v_theCastle_so v_theCastle_common v_theCastle_cases v_theCastle_firstTrueDay (r1) ho2) (cwV 0 hts gX9_ask_X9_hasSlip rfl rfl rfl (by decide +kernel) ⟨(Nat.le_of_ble_eq_true rfl), (Nat.le_of_ble_eq_true rfl)⟩) ⟨(kb_pre hK hG hP (kb_D hD rfl) hS hA [0, 1, 2, 3, 4] rfl (by decide)).1, (va_recv hK hP (ci := 7) (q0 := 0) rfl rfl), (kb_pre hK hG hP (kb_D hD rfl) hS hA [0, 1, 2, 3, 4] rfl (by decide)).2⟩ rfl rfl hl.1 rfl (lv_room (Nat.le_of_ble_eq_true rfl)) dX9_ask_1 ⟨Nat.zero_le _, Nat.zero_le _⟩) hP (kb_D hD rfl) hS hA [0, 1, 2, 3, 4] rfl [(true, 0), (true, 1), (true, 2), (true, 3), (true, 4), (false, 5), (false, 6), (false, 7), (false, 8), (false, 9), (false, 10)] (w2 := [oX9 a_th q_theText (.ref a_theQuestion) (.ref a_theCastle) (.ref a_now) (.ref a_theActs) q_theTold q_foresight q_keptMoments q_isKept q_marchWorlds (.long v_theSeed), oX5 a_theQuestion (.ref a_theQuestion_letters) (.ref a_theQuestion_stack), oX3 a_theQuestion_letters (.ref a_theQuestion_letters_bytes) (.int v_theQuestion_letters_length), aI cI a_theQuestion_letters_bytes n_theQuestion_letters_bytes v_theQuestion_letters_bytes, oX1 a_theCastle (.int v_theCastle_facts) (.int v_theCastle_so) (.int v_theCastle_common) (.int v_theCastle_cases) (.int v_theCastle_firstTrueDay), oX4 a_now (.int v_now_date) (.int v_now_trueDay) (.int v_now_wasAsked) (.int v_now_clothState) (.int v_now_cracks) (.ref a_now_known), oX0 a_theActs (.ref a_theActs_moments) (.ref a_theActs_seeds) (.int v_theActs_next) (.int v_theActs_count), aI cI a_theActs_moments 120 v_theActs_moments, aI cI a_now_known 7 v_now_known, aJ cJ a_theActs_seeds 10 v_theActs_seeds, aI cI a_theQuestion_stack 16 v_theQuestion_stack]) rfl (by decide) (fun H locs hP hS => ?_)
  refine lv_if_ne (tgt := 17) hx hb dX9_ask_4 (by decide) (fun c3 => ?_) (fun c3 => ?_)
  · replace hm := ite_f c3 hm
    refine lv_bipush (v := (-3 : Int32)) hx hb dX9_ask_17 (by decide) ?_
    obtain rfl := Option.some.inj hm
    subst hQ
    exact W.iret hx hb hr (fun t ht hW => ⟨⟨_, (), rfl, rfl, kb_h hP ht⟩, hS.F ht⟩) hS.2.2 dX9_ask_19
  · replace hm := ite_t c3 hm
    refine lv_aload_n hx hb dX9_ask_7 rfl (lv_at hl 0 rfl) ?_
    refine va_get (D := (dC, dI)) (ci := 7) (v := .ref a_now) (C := RX9) (T := TX9) (N := 11) hx hb hts iX9 hown hK hP 0 rfl rfl 3 (by decide) f35 (fun _ h9 => h9) rfl dX9_ask_8 ?_
    obtain ⟨r4, ho5, hm⟩ := bd1_s hm
    refine kb_calli (Rv := r4) (va_runV (As := []) (rest := []) ⟨hx, hb, hml, hown, hts⟩ (c_X4_canBeAsked l dC dI cI cJ cZ cQ t H.size a_now (.ref a_now_known) v_now_date v_now_trueDay v_now_wasAsked v_now_clothState v_now_cracks (r4) ho5) (cwV 0 hts gX9_ask_X4_canBeAsked rfl rfl rfl (by decide +kernel) ⟨(Nat.le_of_ble_eq_true rfl), (Nat.le_of_ble_eq_true rfl)⟩) ⟨(kb_pre hK hG hP (kb_D hD rfl) hS hA [5] rfl (by decide)).1, (va_recv hK hP (ci := 4) (q0 := 5) rfl rfl), (kb_pre hK hG hP (kb_D hD rfl) hS hA [5] rfl (by decide)).2⟩ rfl rfl hl.1 rfl (lv_room (Nat.le_of_ble_eq_true rfl)) dX9_ask_11 ⟨Nat.zero_le _, Nat.zero_le _⟩) hP (kb_D hD rfl) hS hA [5] rfl [(false, 0), (false, 1), (false, 2), (false, 3), (false, 4), (true, 0), (false, 6), (false, 7), (false, 8), (false, 9), (false, 10)] (w2 := [oX9 a_th q_theText (.ref a_theQuestion) (.ref a_theCastle) (.ref a_now) (.ref a_theActs) q_theTold q_foresight q_keptMoments q_isKept q_marchWorlds (.long v_theSeed), oX5 a_theQuestion (.ref a_theQuestion_letters) (.ref a_theQuestion_stack), oX3 a_theQuestion_letters (.ref a_theQuestion_letters_bytes) (.int v_theQuestion_letters_length), aI cI a_theQuestion_letters_bytes n_theQuestion_letters_bytes v_theQuestion_letters_bytes, oX1 a_theCastle (.int v_theCastle_facts) (.int v_theCastle_so) (.int v_theCastle_common) (.int v_theCastle_cases) (.int v_theCastle_firstTrueDay), oX4 a_now (.int v_now_date) (.int v_now_trueDay) (.int v_now_wasAsked) (.int v_now_clothState) (.int v_now_cracks) (.ref a_now_known), oX0 a_theActs (.ref a_theActs_moments) (.ref a_theActs_seeds) (.int v_theActs_next) (.int v_theActs_count), aI cI a_theActs_moments 120 v_theActs_moments, aI cI a_now_known 7 v_now_known, aJ cJ a_theActs_seeds 10 v_theActs_seeds, aI cI a_theQuestion_stack 16 v_theQuestion_stack]) rfl (by decide) (fun H locs hP hS => ?_)
    refine lv_if_ne (tgt := 20) hx hb dX9_ask_14 (by decide) (fun c6 => ?_) (fun c6 => ?_)
    · replace hm := ite_f c6 hm
      refine lv_aload_n hx hb dX9_ask_20 rfl (lv_at hl 0 rfl) ?_
      refine va_get (D := (dC, dI)) (ci := 7) (v := .ref a_theActs) (C := RX9) (T := TX9) (N := 11) hx hb hts iX9 hown hK hP 0 rfl rfl 4 (by decide) f42 (fun _ h9 => h9) rfl dX9_ask_21 ?_
      refine lv_aload_n hx hb dX9_ask_24 rfl (lv_at hl 0 rfl) ?_
      refine va_get (D := (dC, dI)) (ci := 7) (v := .ref a_now) (C := RX9) (T := TX9) (N := 11) hx hb hts iX9 hown hK hP 0 rfl rfl 3 (by decide) f35 (fun _ h9 => h9) rfl dX9_ask_25 ?_
      refine lv_aload_n hx hb dX9_ask_28 rfl (lv_at hl 0 rfl) ?_
      refine va_get (D := (dC, dI)) (ci := 7) (v := .long v_theSeed) (C := RX9) (T := TX9) (N := 11) hx hb hts iX9 hown hK hP 0 rfl rfl 10 (by decide) f174 (fun _ h9 => h9) rfl dX9_ask_29 ?_
      obtain ⟨w7, w8, w9, w10, ho11, hm⟩ := bd4_s hm
      refine kb_callv (va_runV (As := [.ref a_now, .long v_theSeed]) (rest := []) ⟨hx, hb, hml, hown, hts⟩ (c_X0_remember l dC dI cI cJ cZ cQ t H.size a_theActs a_now a_theActs_moments a_now_known a_theActs_seeds v_theActs_next v_theActs_count v_now_date v_now_trueDay v_now_wasAsked v_now_clothState v_now_cracks v_theActs_moments v_now_known v_theActs_seeds v_theSeed (w7, w8, w9, w10) ho11) (cwV 2 hts gX9_ask_X0_remember rfl rfl rfl (by decide +kernel) ⟨(Nat.le_of_ble_eq_true rfl), (Nat.le_of_ble_eq_true rfl)⟩) ⟨(kb_pre hK hG hP (kb_D hD rfl) hS hA [6, 5, 7, 8, 9] rfl (by decide)).1, (va_recv hK hP (ci := 0) (q0 := 6) rfl rfl), (kb_pre hK hG hP (kb_D hD rfl) hS hA [6, 5, 7, 8, 9] rfl (by decide)).2⟩ rfl rfl hl.1 rfl (lv_room (Nat.le_of_ble_eq_true rfl)) dX9_ask_32 ⟨Nat.zero_le _, Nat.zero_le _⟩) hP (kb_D hD rfl) hS hA [6, 5, 7, 8, 9] rfl [(false, 0), (false, 1), (false, 2), (false, 3), (false, 4), (true, 1), (true, 0), (true, 2), (true, 3), (true, 4), (false, 10)] (w2 := [oX9 a_th q_theText (.ref a_theQuestion) (.ref a_theCastle) (.ref a_now) (.ref a_theActs) q_theTold q_foresight q_keptMoments q_isKept q_marchWorlds (.long v_theSeed), oX5 a_theQuestion (.ref a_theQuestion_letters) (.ref a_theQuestion_stack), oX3 a_theQuestion_letters (.ref a_theQuestion_letters_bytes) (.int v_theQuestion_letters_length), aI cI a_theQuestion_letters_bytes n_theQuestion_letters_bytes v_theQuestion_letters_bytes, oX1 a_theCastle (.int v_theCastle_facts) (.int v_theCastle_so) (.int v_theCastle_common) (.int v_theCastle_cases) (.int v_theCastle_firstTrueDay), oX4 a_now (.int v_now_date) (.int v_now_trueDay) (.int v_now_wasAsked) (.int v_now_clothState) (.int v_now_cracks) (.ref a_now_known), oX0 a_theActs (.ref a_theActs_moments) (.ref a_theActs_seeds) (.int w7) (.int w8), aI cI a_theActs_moments 120 w9, aI cI a_now_known 7 v_now_known, aJ cJ a_theActs_seeds 10 w10, aI cI a_theQuestion_stack 16 v_theQuestion_stack]) rfl (by decide) (fun H locs hP hS => ?_)
      refine lv_aload_n hx hb dX9_ask_35 rfl (lv_at hl 0 rfl) ?_
      refine va_get (D := (dC, dI)) (ci := 7) (v := .ref a_now) (C := RX9) (T := TX9) (N := 11) hx hb hts iX9 hown hK hP 0 rfl rfl 3 (by decide) f35 (fun _ h9 => h9) rfl dX9_ask_36 ?_
      obtain ⟨r12, ho13, hm⟩ := bd1_s hm
      refine kb_calli (Rv := r12) (va_runV (As := []) (rest := []) ⟨hx, hb, hml, hown, hts⟩ (c_X4_weekday l dC dI cI cJ cZ cQ t H.size a_now (.ref a_now_known) v_now_date v_now_trueDay v_now_wasAsked v_now_clothState v_now_cracks (r12) ho13) (cwV 0 hts gX9_ask_X4_weekday rfl rfl rfl (by decide +kernel) ⟨(Nat.le_of_ble_eq_true rfl), (Nat.le_of_ble_eq_true rfl)⟩) ⟨(kb_pre hK hG hP (kb_D hD rfl) hS hA [5] rfl (by decide)).1, (va_recv hK hP (ci := 4) (q0 := 5) rfl rfl), (kb_pre hK hG hP (kb_D hD rfl) hS hA [5] rfl (by decide)).2⟩ rfl rfl hl.1 rfl (lv_room (Nat.le_of_ble_eq_true rfl)) dX9_ask_39 ⟨Nat.zero_le _, Nat.zero_le _⟩) hP (kb_D hD rfl) hS hA [5] rfl [(false, 0), (false, 1), (false, 2), (false, 3), (false, 4), (true, 0), (false, 6), (false, 7), (false, 8), (false, 9), (false, 10)] (w2 := [oX9 a_th q_theText (.ref a_theQuestion) (.ref a_theCastle) (.ref a_now) (.ref a_theActs) q_theTold q_foresight q_keptMoments q_isKept q_marchWorlds (.long v_theSeed), oX5 a_theQuestion (.ref a_theQuestion_letters) (.ref a_theQuestion_stack), oX3 a_theQuestion_letters (.ref a_theQuestion_letters_bytes) (.int v_theQuestion_letters_length), aI cI a_theQuestion_letters_bytes n_theQuestion_letters_bytes v_theQuestion_letters_bytes, oX1 a_theCastle (.int v_theCastle_facts) (.int v_theCastle_so) (.int v_theCastle_common) (.int v_theCastle_cases) (.int v_theCastle_firstTrueDay), oX4 a_now (.int v_now_date) (.int v_now_trueDay) (.int v_now_wasAsked) (.int v_now_clothState) (.int v_now_cracks) (.ref a_now_known), oX0 a_theActs (.ref a_theActs_moments) (.ref a_theActs_seeds) (.int w7) (.int w8), aI cI a_theActs_moments 120 w9, aI cI a_now_known 7 v_now_known, aJ cJ a_theActs_seeds 10 w10, aI cI a_theQuestion_stack 16 v_theQuestion_stack]) rfl (by decide) (fun H locs hP hS => ?_)
      refine lv_istore_n (lv' := [(1, .int r12), (0, .ref a_th)]) hx hb dX9_ask_42 rfl hl (by decide) rfl (fun ls hl => ?_)
      refine lv_aload_n hx hb dX9_ask_43 rfl (lv_at hl 1 rfl) ?_
      refine va_get (D := (dC, dI)) (ci := 7) (v := .ref a_theQuestion) (C := RX9) (T := TX9) (N := 11) hx hb hts iX9 hown hK hP 0 rfl rfl 1 (by decide) f21 (fun _ h9 => h9) rfl dX9_ask_44 ?_
      refine lv_iload_n hx hb dX9_ask_47 rfl (lv_at hl 0 rfl) ?_
      refine lv_aload_n hx hb dX9_ask_48 rfl (lv_at hl 1 rfl) ?_
      refine va_get (D := (dC, dI)) (ci := 7) (v := .ref a_now) (C := RX9) (T := TX9) (N := 11) hx hb hts iX9 hown hK hP 0 rfl rfl 3 (by decide) f35 (fun _ h9 => h9) rfl dX9_ask_49 ?_
      refine va_getN (D := (dC, dI)) (ci := 4) (v := .int v_now_trueDay) (C := RX4) (T := TX4) (N := 6) hx hb hts iX4 hown hK hP 5 rfl rfl 1 (by decide) f141 (fun _ h9 => h9) rfl dX9_ask_52 ?_
      refine lv_aload_n hx hb dX9_ask_55 rfl (lv_at hl 1 rfl) ?_
      refine va_get (D := (dC, dI)) (ci := 7) (v := .ref a_theCastle) (C := RX9) (T := TX9) (N := 11) hx hb hts iX9 hown hK hP 0 rfl rfl 2 (by decide) f28 (fun _ h9 => h9) rfl dX9_ask_56 ?_
      refine va_getN (D := (dC, dI)) (ci := 1) (v := .int v_theCastle_so) (C := RX1) (T := TX1) (N := 5) hx hb hts iX1 hown hK hP 4 rfl rfl 1 (by decide) f148 (fun _ h9 => h9) rfl dX9_ask_59 ?_
      refine lv_iconst (v := (0 : Int32)) hx hb dX9_ask_62 (by decide) ?_
      obtain ⟨r14, w15, ho16, hm⟩ := bd2_s hm
      refine kb_calli (Rv := r14) (va_runV (As := [.int r12, .int v_now_trueDay, .int v_theCastle_so, .int (0 : Int32)]) (rest := []) ⟨hx, hb, hml, hown, hts⟩ (c_X5_answerIn l dC dI cI cJ cZ cQ t H.size a_theQuestion a_theQuestion_letters a_theQuestion_letters_bytes a_theQuestion_stack n_theQuestion_letters_bytes v_theQuestion_letters_length v_theQuestion_letters_bytes v_theQuestion_stack r12 v_now_trueDay v_theCastle_so (0 : Int32) (r14, w15) ho16) (cwV 4 hts gX9_ask_X5_answerIn rfl rfl rfl (by decide +kernel) ⟨(Nat.le_of_ble_eq_true rfl), (Nat.le_of_ble_eq_true rfl)⟩) ⟨(kb_pre hK hG hP (kb_D hD rfl) hS hA [1, 2, 3, 10] rfl (by decide)).1, (va_recv hK hP (ci := 5) (q0 := 1) rfl rfl), (kb_pre hK hG hP (kb_D hD rfl) hS hA [1, 2, 3, 10] rfl (by decide)).2⟩ rfl rfl hl.1 rfl (lv_room (Nat.le_of_ble_eq_true rfl)) dX9_ask_63 ⟨Nat.zero_le _, Nat.zero_le _⟩) hP (kb_D hD rfl) hS hA [1, 2, 3, 10] rfl [(false, 0), (true, 0), (true, 1), (true, 2), (false, 4), (false, 5), (false, 6), (false, 7), (false, 8), (false, 9), (true, 3)] (w2 := [oX9 a_th q_theText (.ref a_theQuestion) (.ref a_theCastle) (.ref a_now) (.ref a_theActs) q_theTold q_foresight q_keptMoments q_isKept q_marchWorlds (.long v_theSeed), oX5 a_theQuestion (.ref a_theQuestion_letters) (.ref a_theQuestion_stack), oX3 a_theQuestion_letters (.ref a_theQuestion_letters_bytes) (.int v_theQuestion_letters_length), aI cI a_theQuestion_letters_bytes n_theQuestion_letters_bytes v_theQuestion_letters_bytes, oX1 a_theCastle (.int v_theCastle_facts) (.int v_theCastle_so) (.int v_theCastle_common) (.int v_theCastle_cases) (.int v_theCastle_firstTrueDay), oX4 a_now (.int v_now_date) (.int v_now_trueDay) (.int v_now_wasAsked) (.int v_now_clothState) (.int v_now_cracks) (.ref a_now_known), oX0 a_theActs (.ref a_theActs_moments) (.ref a_theActs_seeds) (.int w7) (.int w8), aI cI a_theActs_moments 120 w9, aI cI a_now_known 7 v_now_known, aJ cJ a_theActs_seeds 10 w10, aI cI a_theQuestion_stack 16 w15]) rfl (by decide) (fun H locs hP hS => ?_)
      refine lv_istore_n (lv' := [(2, .int r14), (1, .int r12), (0, .ref a_th)]) hx hb dX9_ask_66 rfl hl (by decide) rfl (fun ls hl => ?_)
      refine lv_iconst (v := (0 : Int32)) hx hb dX9_ask_67 (by decide) ?_
      refine lv_istore_n (lv' := [(3, .int (0 : Int32)), (2, .int r14), (1, .int r12), (0, .ref a_th)]) hx hb dX9_ask_68 rfl hl (by decide) rfl (fun ls hl => ?_)
      have lp69 : ∀ (n69 : Nat) (x17 : Int32) (w18 : (Nat → Int32)) (w19 : (Nat → Int32)) (k69 : (Nat → Int32) → (Nat → Int32) → Option (Int32 × Int32 × Int32 × Int32 × Int32 × (Nat → Int32) × (Nat → Int32) × (Nat → Int64) × (Nat → Int32))) (H : Heap) (locs : List Loc) (ls : Array Slot), L_X9_ask_69 v_theQuestion_letters_length v_theQuestion_letters_bytes n_theQuestion_letters_bytes r12 r14 n69 x17 w18 w19 k69 = some o → (∀ (w20 : (Nat → Int32)) (w21 : (Nat → Int32)) (H : Heap) (locs : List Loc) (ls : Array Slot), k69 w20 w21 = some o → va_P (dC, dI) vwCl [oX9 a_th q_theText (.ref a_theQuestion) (.ref a_theCastle) (.ref a_now) (.ref a_theActs) q_theTold q_foresight q_keptMoments q_isKept q_marchWorlds (.long v_theSeed), oX5 a_theQuestion (.ref a_theQuestion_letters) (.ref a_theQuestion_stack), oX3 a_theQuestion_letters (.ref a_theQuestion_letters_bytes) (.int v_theQuestion_letters_length), aI cI a_theQuestion_letters_bytes n_theQuestion_letters_bytes v_theQuestion_letters_bytes, oX1 a_theCastle (.int v_theCastle_facts) (.int v_theCastle_so) (.int v_theCastle_common) (.int v_theCastle_cases) (.int v_theCastle_firstTrueDay), oX4 a_now (.int v_now_date) (.int v_now_trueDay) (.int v_now_wasAsked) (.int v_now_clothState) (.int v_now_cracks) (.ref a_now_known), oX0 a_theActs (.ref a_theActs_moments) (.ref a_theActs_seeds) (.int w7) (.int w8), aI cI a_theActs_moments 120 w9, aI cI a_now_known 7 w20, aJ cJ a_theActs_seeds 10 w10, aI cI a_theQuestion_stack 16 w21] H → va_S A s.heap H locs → lv_has ls 4 [(0, .ref a_th), (2, .int r14)] → W p l e (headSpec wsX9_ask { frames := 5, cells := 0, slots := 0, locals := 146 }).room s m [.ref a_th].toArray below meth c H locs 0 0 Q (F0 m 104 ls [])) → va_P (dC, dI) vwCl [oX9 a_th q_theText (.ref a_theQuestion) (.ref a_theCastle) (.ref a_now) (.ref a_theActs) q_theTold q_foresight q_keptMoments q_isKept q_marchWorlds (.long v_theSeed), oX5 a_theQuestion (.ref a_theQuestion_letters) (.ref a_theQuestion_stack), oX3 a_theQuestion_letters (.ref a_theQuestion_letters_bytes) (.int v_theQuestion_letters_length), aI cI a_theQuestion_letters_bytes n_theQuestion_letters_bytes v_theQuestion_letters_bytes, oX1 a_theCastle (.int v_theCastle_facts) (.int v_theCastle_so) (.int v_theCastle_common) (.int v_theCastle_cases) (.int v_theCastle_firstTrueDay), oX4 a_now (.int v_now_date) (.int v_now_trueDay) (.int v_now_wasAsked) (.int v_now_clothState) (.int v_now_cracks) (.ref a_now_known), oX0 a_theActs (.ref a_theActs_moments) (.ref a_theActs_seeds) (.int w7) (.int w8), aI cI a_theActs_moments 120 w9, aI cI a_now_known 7 w18, aJ cJ a_theActs_seeds 10 w10, aI cI a_theQuestion_stack 16 w19] H → va_S A s.heap H locs → lv_has ls 4 [(0, .ref a_th), (1, .int r12), (2, .int r14), (3, .int x17)] → W p l e (headSpec wsX9_ask { frames := 5, cells := 0, slots := 0, locals := 146 }).room s m [.ref a_th].toArray below meth c H locs 0 0 Q (F0 m 69 ls []) := by
        intro n69
        induction n69 with
        | zero =>
          intro x17 w18 w19 k69 H locs ls hm
          cases (show (none : Option (Int32 × Int32 × Int32 × Int32 × Int32 × (Nat → Int32) × (Nat → Int32) × (Nat → Int64) × (Nat → Int32))) = some o from hm)
        | succ n69 ih69 =>
          intro x17 w18 w19 k69 H locs ls hm hk69 hP hS hl
          rw [L_X9_ask_69.eq_2] at hm
          refine lv_iload_n hx hb dX9_ask_69 rfl (lv_at hl 3 rfl) ?_
          refine lv_bipush (v := (7 : Int32)) hx hb dX9_ask_70 (by decide) ?_
          refine lv_icmp_ge (tgt := 104) hx hb dX9_ask_72 (by decide) (fun c22 => ?_) (fun c22 => ?_)
          · replace hm := ite_t c22 hm
            exact hk69 w18 w19 _ _ _ hm hP hS (lv_sub hl [0, 2] rfl)
          · replace hm := ite_f c22 hm
            refine lv_aload_n hx hb dX9_ask_75 rfl (lv_at hl 0 rfl) ?_
            refine va_get (D := (dC, dI)) (ci := 7) (v := .ref a_now) (C := RX9) (T := TX9) (N := 11) hx hb hts iX9 hown hK hP 0 rfl rfl 3 (by decide) f35 (fun _ h9 => h9) rfl dX9_ask_76 ?_
            refine va_getN (D := (dC, dI)) (ci := 4) (v := .ref a_now_known) (C := RX4) (T := TX4) (N := 6) hx hb hts iX4 hown hK hP 5 rfl rfl 5 (by decide) f113 (fun _ h9 => h9) rfl dX9_ask_79 ?_
            refine lv_iload_n hx hb dX9_ask_82 rfl (lv_at hl 3 rfl) ?_
            refine lv_dup2_11 hx hb dX9_ask_83 rfl rfl ?_
            obtain ⟨h23, hm⟩ := gd_s hm
            refine va_iald hx hb hK hP 8 0 rfl rfl (inB_s h23) dX9_ask_84 ?_
            refine lv_aload_n hx hb dX9_ask_85 rfl (lv_at hl 0 rfl) ?_
            refine va_get (D := (dC, dI)) (ci := 7) (v := .ref a_theQuestion) (C := RX9) (T := TX9) (N := 11) hx hb hts iX9 hown hK hP 0 rfl rfl 1 (by decide) f21 (fun _ h9 => h9) rfl dX9_ask_86 ?_
            refine lv_iload_n hx hb dX9_ask_89 rfl (lv_at hl 2 rfl) ?_
            refine lv_iload_n hx hb dX9_ask_90 rfl (lv_at hl 1 rfl) ?_
            refine lv_iload_n hx hb dX9_ask_91 rfl (lv_at hl 3 rfl) ?_
            refine lv_iconst (v := (0 : Int32)) hx hb dX9_ask_92 (by decide) ?_
            obtain ⟨r24, w25, ho26, hm⟩ := bd2_s hm
            refine kb_calli (Rv := r24) (va_runV (As := [.int r14, .int r12, .int x17, .int (0 : Int32)]) (rest := [.int (w18 (Int32.toNatClampNeg x17)), .int x17, .ref a_now_known]) ⟨hx, hb, hml, hown, hts⟩ (c_X5_casesAnswered l dC dI cI cJ cZ cQ t H.size a_theQuestion a_theQuestion_letters a_theQuestion_letters_bytes a_theQuestion_stack n_theQuestion_letters_bytes v_theQuestion_letters_length v_theQuestion_letters_bytes w19 r14 r12 x17 (0 : Int32) (r24, w25) ho26) (cwV 4 hts gX9_ask_X5_casesAnswered rfl rfl rfl (by decide +kernel) ⟨(Nat.le_of_ble_eq_true rfl), (Nat.le_of_ble_eq_true rfl)⟩) ⟨(kb_pre hK hG hP (kb_D hD rfl) hS hA [1, 2, 3, 10] rfl (by decide)).1, (va_recv hK hP (ci := 5) (q0 := 1) rfl rfl), (kb_pre hK hG hP (kb_D hD rfl) hS hA [1, 2, 3, 10] rfl (by decide)).2⟩ rfl rfl hl.1 rfl (lv_room (Nat.le_of_ble_eq_true rfl)) dX9_ask_93 ⟨Nat.zero_le _, Nat.zero_le _⟩) hP (kb_D hD rfl) hS hA [1, 2, 3, 10] rfl [(false, 0), (true, 0), (true, 1), (true, 2), (false, 4), (false, 5), (false, 6), (false, 7), (false, 8), (false, 9), (true, 3)] (w2 := [oX9 a_th q_theText (.ref a_theQuestion) (.ref a_theCastle) (.ref a_now) (.ref a_theActs) q_theTold q_foresight q_keptMoments q_isKept q_marchWorlds (.long v_theSeed), oX5 a_theQuestion (.ref a_theQuestion_letters) (.ref a_theQuestion_stack), oX3 a_theQuestion_letters (.ref a_theQuestion_letters_bytes) (.int v_theQuestion_letters_length), aI cI a_theQuestion_letters_bytes n_theQuestion_letters_bytes v_theQuestion_letters_bytes, oX1 a_theCastle (.int v_theCastle_facts) (.int v_theCastle_so) (.int v_theCastle_common) (.int v_theCastle_cases) (.int v_theCastle_firstTrueDay), oX4 a_now (.int v_now_date) (.int v_now_trueDay) (.int v_now_wasAsked) (.int v_now_clothState) (.int v_now_cracks) (.ref a_now_known), oX0 a_theActs (.ref a_theActs_moments) (.ref a_theActs_seeds) (.int w7) (.int w8), aI cI a_theActs_moments 120 w9, aI cI a_now_known 7 w18, aJ cJ a_theActs_seeds 10 w10, aI cI a_theQuestion_stack 16 w25]) rfl (by decide) (fun H locs hP hS => ?_)
            refine lv_iand hx hb dX9_ask_96 ?_
            obtain ⟨h27, hm⟩ := gd_s hm
            refine va_iast hx hb hK hP (kb_D hD rfl) hS 8 0 rfl rfl (inB_s h27) dX9_ask_97 (fun H locs hP _ hS => ?_)
            have hP : va_P (dC, dI) vwCl [oX9 a_th q_theText (.ref a_theQuestion) (.ref a_theCastle) (.ref a_now) (.ref a_theActs) q_theTold q_foresight q_keptMoments q_isKept q_marchWorlds (.long v_theSeed), oX5 a_theQuestion (.ref a_theQuestion_letters) (.ref a_theQuestion_stack), oX3 a_theQuestion_letters (.ref a_theQuestion_letters_bytes) (.int v_theQuestion_letters_length), aI cI a_theQuestion_letters_bytes n_theQuestion_letters_bytes v_theQuestion_letters_bytes, oX1 a_theCastle (.int v_theCastle_facts) (.int v_theCastle_so) (.int v_theCastle_common) (.int v_theCastle_cases) (.int v_theCastle_firstTrueDay), oX4 a_now (.int v_now_date) (.int v_now_trueDay) (.int v_now_wasAsked) (.int v_now_clothState) (.int v_now_cracks) (.ref a_now_known), oX0 a_theActs (.ref a_theActs_moments) (.ref a_theActs_seeds) (.int w7) (.int w8), aI cI a_theActs_moments 120 w9, aI cI a_now_known 7 (upd w18 (Int32.toNatClampNeg x17) ((w18 (Int32.toNatClampNeg x17)) &&& r24)), aJ cJ a_theActs_seeds 10 w10, aI cI a_theQuestion_stack 16 w25] H := hP
            obtain ⟨x28, ex28⟩ : ∃ y : Int32, y = x17 + (1 : Int32) := ⟨_, rfl⟩
            replace hm := nm_t ex28 hm
            refine lv_iinc (v := x28) (lv' := [(3, .int x28), (0, .ref a_th), (1, .int r12), (2, .int r14)]) hx hb dX9_ask_98 hl (k := 3) rfl (by rw [ex28]; rfl) (by decide) rfl (fun ls hl => ?_)
            refine lv_goto (tgt := 69) hx hb dX9_ask_101 (by decide) ?_
            exact ih69 x28 (upd w18 (Int32.toNatClampNeg x17) ((w18 (Int32.toNatClampNeg x17)) &&& r24)) w25 k69 _ _ _ hm hk69 hP hS (lv_sub hl [1, 2, 3, 0] rfl)
      refine lp69 1024 (0 : Int32) v_now_known w15 _ _ _ _ hm (fun w20 w21 H locs ls hm hP hS hl => ?_) hP hS (lv_sub hl [3, 2, 1, 0] rfl)
      refine lv_aload_n hx hb dX9_ask_104 rfl (lv_at hl 0 rfl) ?_
      refine va_get (D := (dC, dI)) (ci := 7) (v := .ref a_now) (C := RX9) (T := TX9) (N := 11) hx hb hts iX9 hown hK hP 0 rfl rfl 3 (by decide) f35 (fun _ h9 => h9) rfl dX9_ask_105 ?_
      refine lv_iconst (v := (1 : Int32)) hx hb dX9_ask_108 (by decide) ?_
      refine va_putN (D := (dC, dI)) (ci := 4) (v := .int (1 : Int32)) (ty := .boolean) (C := RX4) (T := TX4) (N := 6) hx hb hts iX4 tyX4 tyX4_ok nmX4 hown hK hP (kb_D hD rfl) hS 5 rfl rfl 2 (by decide) f122 (fun _ h9 => h9) rfl (by decide +kernel) rfl rfl (Nat.le_of_ble_eq_true rfl) dX9_ask_109 (fun H locs hP _ hS => ?_)
      have hP : va_P (dC, dI) vwCl [oX9 a_th q_theText (.ref a_theQuestion) (.ref a_theCastle) (.ref a_now) (.ref a_theActs) q_theTold q_foresight q_keptMoments q_isKept q_marchWorlds (.long v_theSeed), oX5 a_theQuestion (.ref a_theQuestion_letters) (.ref a_theQuestion_stack), oX3 a_theQuestion_letters (.ref a_theQuestion_letters_bytes) (.int v_theQuestion_letters_length), aI cI a_theQuestion_letters_bytes n_theQuestion_letters_bytes v_theQuestion_letters_bytes, oX1 a_theCastle (.int v_theCastle_facts) (.int v_theCastle_so) (.int v_theCastle_common) (.int v_theCastle_cases) (.int v_theCastle_firstTrueDay), oX4 a_now (.int v_now_date) (.int v_now_trueDay) (.int (1 : Int32)) (.int v_now_clothState) (.int v_now_cracks) (.ref a_now_known), oX0 a_theActs (.ref a_theActs_moments) (.ref a_theActs_seeds) (.int w7) (.int w8), aI cI a_theActs_moments 120 w9, aI cI a_now_known 7 w20, aJ cJ a_theActs_seeds 10 w10, aI cI a_theQuestion_stack 16 w21] H := hP
      refine lv_iload_n hx hb dX9_ask_112 rfl (lv_at hl 1 rfl) ?_
      refine lv_iconst (v := (2 : Int32)) hx hb dX9_ask_113 (by decide) ?_
      obtain ⟨k130, ek130, hm⟩ := nm_s hm
      have J130 : ∀ (w29 : Int32) (H : Heap) (locs : List Loc) (ls : Array Slot), k130 w29 = some o → va_P (dC, dI) vwCl [oX9 a_th q_theText (.ref a_theQuestion) (.ref a_theCastle) (.ref a_now) (.ref a_theActs) q_theTold q_foresight q_keptMoments q_isKept q_marchWorlds (.long v_theSeed), oX5 a_theQuestion (.ref a_theQuestion_letters) (.ref a_theQuestion_stack), oX3 a_theQuestion_letters (.ref a_theQuestion_letters_bytes) (.int v_theQuestion_letters_length), aI cI a_theQuestion_letters_bytes n_theQuestion_letters_bytes v_theQuestion_letters_bytes, oX1 a_theCastle (.int v_theCastle_facts) (.int v_theCastle_so) (.int v_theCastle_common) (.int v_theCastle_cases) (.int v_theCastle_firstTrueDay), oX4 a_now (.int v_now_date) (.int v_now_trueDay) (.int (1 : Int32)) (.int v_now_clothState) (.int w29) (.ref a_now_known), oX0 a_theActs (.ref a_theActs_moments) (.ref a_theActs_seeds) (.int w7) (.int w8), aI cI a_theActs_moments 120 w9, aI cI a_now_known 7 w20, aJ cJ a_theActs_seeds 10 w10, aI cI a_theQuestion_stack 16 w21] H → va_S A s.heap H locs → lv_has ls 4 [(2, .int r14)] → W p l e (headSpec wsX9_ask { frames := 5, cells := 0, slots := 0, locals := 146 }).room s m [.ref a_th].toArray below meth c H locs 0 0 Q (F0 m 130 ls []) := by
        intro w29 H locs ls hm hP hS hl
        rw [ek130] at hm
        refine lv_iload_n hx hb dX9_ask_130 rfl (lv_at hl 0 rfl) ?_
        obtain ⟨r30, ho31, hm⟩ := bd1_s hm
        refine kb_calli (Rv := r30) (va_runS (As := [.int r14]) (rest := []) ⟨hx, hb, hml, hown, hts⟩ (c_X9_told l dC dI cI cJ cZ cQ t H.size r14 (r30) ho31) (va_cwS 1 hts gX9_ask_X9_told rfl rfl rfl (by decide +kernel) ⟨(Nat.le_of_ble_eq_true rfl), (Nat.le_of_ble_eq_true rfl)⟩) (kb_pre hK hG hP (kb_D hD rfl) hS hA [] rfl (by decide)) rfl rfl hl.1 rfl (lv_room (Nat.le_of_ble_eq_true rfl)) dX9_ask_131 ⟨Nat.zero_le _, Nat.zero_le _⟩) hP (kb_D hD rfl) hS hA [] rfl [(false, 0), (false, 1), (false, 2), (false, 3), (false, 4), (false, 5), (false, 6), (false, 7), (false, 8), (false, 9), (false, 10)] (w2 := [oX9 a_th q_theText (.ref a_theQuestion) (.ref a_theCastle) (.ref a_now) (.ref a_theActs) q_theTold q_foresight q_keptMoments q_isKept q_marchWorlds (.long v_theSeed), oX5 a_theQuestion (.ref a_theQuestion_letters) (.ref a_theQuestion_stack), oX3 a_theQuestion_letters (.ref a_theQuestion_letters_bytes) (.int v_theQuestion_letters_length), aI cI a_theQuestion_letters_bytes n_theQuestion_letters_bytes v_theQuestion_letters_bytes, oX1 a_theCastle (.int v_theCastle_facts) (.int v_theCastle_so) (.int v_theCastle_common) (.int v_theCastle_cases) (.int v_theCastle_firstTrueDay), oX4 a_now (.int v_now_date) (.int v_now_trueDay) (.int (1 : Int32)) (.int v_now_clothState) (.int w29) (.ref a_now_known), oX0 a_theActs (.ref a_theActs_moments) (.ref a_theActs_seeds) (.int w7) (.int w8), aI cI a_theActs_moments 120 w9, aI cI a_now_known 7 w20, aJ cJ a_theActs_seeds 10 w10, aI cI a_theQuestion_stack 16 w21]) rfl (by decide) (fun H locs hP hS => ?_)
        obtain rfl := Option.some.inj hm
        subst hQ
        exact W.iret hx hb hr (fun t ht hW => ⟨⟨_, (), rfl, rfl, kb_h hP ht⟩, hS.F ht⟩) hS.2.2 dX9_ask_134
      refine lv_icmp_ne (tgt := 130) hx hb dX9_ask_114 (by decide) (fun c32 => ?_) (fun c32 => ?_)
      · replace hm := ite_f c32 hm
        exact J130 v_now_cracks _ _ _ hm hP hS (lv_sub hl [1] rfl)
      · replace hm := ite_t c32 hm
        refine lv_aload_n hx hb dX9_ask_117 rfl (lv_at hl 0 rfl) ?_
        refine va_get (D := (dC, dI)) (ci := 7) (v := .ref a_now) (C := RX9) (T := TX9) (N := 11) hx hb hts iX9 hown hK hP 0 rfl rfl 3 (by decide) f35 (fun _ h9 => h9) rfl dX9_ask_118 ?_
        refine lv_dup hx hb dX9_ask_121 rfl ?_
        refine va_getN (D := (dC, dI)) (ci := 4) (v := .int v_now_cracks) (C := RX4) (T := TX4) (N := 6) hx hb hts iX4 hown hK hP 5 rfl rfl 4 (by decide) f129 (fun _ h9 => h9) rfl dX9_ask_122 ?_
        refine lv_iconst (v := (1 : Int32)) hx hb dX9_ask_125 (by decide) ?_
        refine lv_iadd hx hb dX9_ask_126 ?_
        refine lv_topi (fun x33 ex33 => ?_)
        replace hm := nm_t ex33 hm
        refine va_putN (D := (dC, dI)) (ci := 4) (v := .int x33) (ty := .int) (C := RX4) (T := TX4) (N := 6) hx hb hts iX4 tyX4 tyX4_ok nmX4 hown hK hP (kb_D hD rfl) hS 5 rfl rfl 4 (by decide) f129 (fun _ h9 => h9) rfl (by decide +kernel) rfl rfl (Nat.le_of_ble_eq_true rfl) dX9_ask_127 (fun H locs hP _ hS => ?_)
        have hP : va_P (dC, dI) vwCl [oX9 a_th q_theText (.ref a_theQuestion) (.ref a_theCastle) (.ref a_now) (.ref a_theActs) q_theTold q_foresight q_keptMoments q_isKept q_marchWorlds (.long v_theSeed), oX5 a_theQuestion (.ref a_theQuestion_letters) (.ref a_theQuestion_stack), oX3 a_theQuestion_letters (.ref a_theQuestion_letters_bytes) (.int v_theQuestion_letters_length), aI cI a_theQuestion_letters_bytes n_theQuestion_letters_bytes v_theQuestion_letters_bytes, oX1 a_theCastle (.int v_theCastle_facts) (.int v_theCastle_so) (.int v_theCastle_common) (.int v_theCastle_cases) (.int v_theCastle_firstTrueDay), oX4 a_now (.int v_now_date) (.int v_now_trueDay) (.int (1 : Int32)) (.int v_now_clothState) (.int x33) (.ref a_now_known), oX0 a_theActs (.ref a_theActs_moments) (.ref a_theActs_seeds) (.int w7) (.int w8), aI cI a_theActs_moments 120 w9, aI cI a_now_known 7 w20, aJ cJ a_theActs_seeds 10 w10, aI cI a_theQuestion_stack 16 w21] H := hP
        exact J130 x33 _ _ _ hm hP hS (lv_sub hl [1] rfl)
    · replace hm := ite_t c6 hm
      refine lv_bipush (v := (-3 : Int32)) hx hb dX9_ask_17 (by decide) ?_
      obtain rfl := Option.some.inj hm
      subst hQ
      exact W.iret hx hb hr (fun t ht hW => ⟨⟨_, (), rfl, rfl, kb_h hP ht⟩, hS.F ht⟩) hS.2.2 dX9_ask_19
set_option maxHeartbeats 4000000 in
set_option maxRecDepth 100000 in
theorem c_X4_dayGoesBy (l : Launch) (dC : Nat → ClassId) (dI : Nat → Nat → Nat) (cI cJ cZ cQ : ClassId) (t sz : Nat) (a_th : Nat) (q_known : Value) (v_date : Int32) (v_trueDay : Int32) (v_wasAsked : Int32) (v_clothState : Int32) (v_cracks : Int32) (o : Int32 × Int32 × Int32 × Int32) (hm : m_X4_dayGoesBy v_date v_wasAsked v_clothState = some o) : Met l yX4_dayGoesBy wsX4_dayGoesBy { frames := 0, cells := 0, slots := 0, locals := 0 } (va_Pc [.ref a_th] (cP (dC, dI) (kT cI cJ cZ cQ) t sz [oX4 a_th (.int v_date) (.int v_trueDay) (.int v_wasAsked) (.int v_clothState) (.int v_cracks) q_known])) (cQi (dC, dI) (va_A [oX4 a_th (.int v_date) (.int v_trueDay) (.int v_wasAsked) (.int v_clothState) (.int v_cracks) q_known] sz) o.1 [oX4 a_th (.int (o.2.1)) (.int v_trueDay) (.int (o.2.2.1)) (.int (o.2.2.2)) (.int v_cracks) q_known]) 0 0 (va_A [oX4 a_th (.int v_date) (.int v_trueDay) (.int v_wasAsked) (.int v_clothState) (.int v_cracks) q_known] sz) := by
  refine Met.ofW (cc := cX4_dayGoesBy) (maxL := 1) (ret := (some .boolean)) (by decide) rfl ?_
  intro p e s m args below meth c s₁ B hml hv
  obtain ⟨rfl, hsz, hP, hK, hD0, hG⟩ := hv
  have hx := B.exec
  have hb := B.bytes
  have hr := B.returns
  have hts := atoms_spec (ws := wsX4_dayGoesBy) B.pre
  have hown : s.vm.findClass RX4 = some m.cls := findClass_of_methodNamed B.named
  have hlocks := B.notSynchronized
  subst hsz
  have hD := hD0.self (sz := s.heap.size)
  generalize hAe : va_A [oX4 a_th (.int v_date) (.int v_trueDay) (.int v_wasAsked) (.int v_clothState) (.int v_cracks) q_known] s.heap.size = A at hD hG ⊢
  have hA : ∀ q : Nat, s.heap.size ≤ q → A q := fun q h => by rw [← hAe]; exact Or.inr h
  have hS : va_S A s.heap s.heap [] := va_S.rf
  have hl := lv_entry ([.ref a_th]) (n := 1) (Nat.le_of_ble_eq_true rfl)
  rw [lg_entry_eq]
  generalize (lg_sl ([.ref a_th]) ++ List.replicate (1 - (lg_sl ([.ref a_th])).length) Slot.unset).toArray = ls at hl ⊢
  have hl : lv_has ls 1 [(0, .ref a_th)] := hl
  have iX4 : ∀ w ∈ wsX40, w ∈ wsX4_dayGoesBy := fun _ h => List.mem_cons_of_mem _ (List.mem_append_right _ h)
  have f15 := hts (.fieldLink RX4 15 "TrueOnceWeek$Moment" "date" "I") (by decide +kernel)
  have f22 := hts (.fieldLink RX4 22 "TrueOnceWeek$Moment" "wasAsked" "Z") (by decide +kernel)
  have f26 := hts (.fieldLink RX4 26 "TrueOnceWeek$Moment" "clothState" "I") (by decide +kernel)
  refine kb_gen (fun Q hQ => ?_)
  unfold m_X4_dayGoesBy at hm
  refine lv_aload_n hx hb dX4_dayGoesBy_0 rfl (lv_at hl 0 rfl) ?_
  refine lv_aload_n hx hb dX4_dayGoesBy_1 rfl (lv_at hl 0 rfl) ?_
  refine va_get (D := (dC, dI)) (ci := 4) (v := .int v_date) (C := RX4) (T := TX4) (N := 6) hx hb hts iX4 hown hK hP 0 rfl rfl 0 (by decide) f15 (fun _ h9 => h9) rfl dX4_dayGoesBy_2 ?_
  refine lv_iconst (v := (1 : Int32)) hx hb dX4_dayGoesBy_5 (by decide) ?_
  refine lv_iadd hx hb dX4_dayGoesBy_6 ?_
  refine lv_bipush (v := (28 : Int32)) hx hb dX4_dayGoesBy_7 (by decide) ?_
  refine lv_irem hx hb dX4_dayGoesBy_9 (by decide) ?_
  refine lv_topi (fun x1 ex1 => ?_)
  replace hm := nm_t ex1 hm
  refine va_put (D := (dC, dI)) (ci := 4) (v := .int x1) (ty := .int) (C := RX4) (T := TX4) (N := 6) hx hb hts iX4 tyX4 tyX4_ok nmX4 hown hK hP (kb_D hD rfl) hS 0 rfl rfl 0 (by decide) f15 (fun _ h9 => h9) rfl (by decide +kernel) rfl rfl (Nat.le_of_ble_eq_true rfl) dX4_dayGoesBy_10 (fun H locs hP _ hS => ?_)
  have hP : va_P (dC, dI) vwCl [oX4 a_th (.int x1) (.int v_trueDay) (.int v_wasAsked) (.int v_clothState) (.int v_cracks) q_known] H := hP
  refine lv_aload_n hx hb dX4_dayGoesBy_13 rfl (lv_at hl 0 rfl) ?_
  refine lv_iconst (v := (0 : Int32)) hx hb dX4_dayGoesBy_14 (by decide) ?_
  refine va_put (D := (dC, dI)) (ci := 4) (v := .int (0 : Int32)) (ty := .boolean) (C := RX4) (T := TX4) (N := 6) hx hb hts iX4 tyX4 tyX4_ok nmX4 hown hK hP (kb_D hD rfl) hS 0 rfl rfl 2 (by decide) f22 (fun _ h9 => h9) rfl (by decide +kernel) rfl rfl (Nat.le_of_ble_eq_true rfl) dX4_dayGoesBy_15 (fun H locs hP _ hS => ?_)
  have hP : va_P (dC, dI) vwCl [oX4 a_th (.int x1) (.int v_trueDay) (.int (0 : Int32)) (.int v_clothState) (.int v_cracks) q_known] H := hP
  refine lv_aload_n hx hb dX4_dayGoesBy_18 rfl (lv_at hl 0 rfl) ?_
  refine va_get (D := (dC, dI)) (ci := 4) (v := .int v_clothState) (C := RX4) (T := TX4) (N := 6) hx hb hts iX4 hown hK hP 0 rfl rfl 3 (by decide) f26 (fun _ h9 => h9) rfl dX4_dayGoesBy_19 ?_
  refine lv_iconst (v := (2 : Int32)) hx hb dX4_dayGoesBy_22 (by decide) ?_
  obtain ⟨k31, ek31, hm⟩ := nm_s hm
  have J31 : ∀ (w2 : Int32) (H : Heap) (locs : List Loc) (ls : Array Slot), k31 w2 = some o → va_P (dC, dI) vwCl [oX4 a_th (.int x1) (.int v_trueDay) (.int (0 : Int32)) (.int w2) (.int v_cracks) q_known] H → va_S A s.heap H locs → lv_has ls 1 [(0, .ref a_th)] → W p l e (headSpec wsX4_dayGoesBy { frames := 0, cells := 0, slots := 0, locals := 0 }).room s m [.ref a_th].toArray below meth c H locs 0 0 Q (F0 m 31 ls []) := by
    intro w2 H locs ls hm hP hS hl
    rw [ek31] at hm
    refine lv_aload_n hx hb dX4_dayGoesBy_31 rfl (lv_at hl 0 rfl) ?_
    refine va_get (D := (dC, dI)) (ci := 4) (v := .int x1) (C := RX4) (T := TX4) (N := 6) hx hb hts iX4 hown hK hP 0 rfl rfl 0 (by decide) f15 (fun _ h9 => h9) rfl dX4_dayGoesBy_32 ?_
    refine lv_if_ne (tgt := 42) hx hb dX4_dayGoesBy_35 (by decide) (fun c3 => ?_) (fun c3 => ?_)
    · replace hm := ite_f c3 hm
      refine lv_iconst (v := (0 : Int32)) hx hb dX4_dayGoesBy_42 (by decide) ?_
      obtain rfl := Option.some.inj hm
      subst hQ
      exact W.zret hx hb hr rfl (fun t ht hW => ⟨⟨_, (), rfl, rfl, kb_h hP ht⟩, hS.F ht⟩) hS.2.2 dX4_dayGoesBy_43
    · replace hm := ite_t c3 hm
      refine lv_iconst (v := (1 : Int32)) hx hb dX4_dayGoesBy_38 (by decide) ?_
      refine lv_goto (tgt := 43) hx hb dX4_dayGoesBy_39 (by decide) ?_
      obtain rfl := Option.some.inj hm
      subst hQ
      exact W.zret hx hb hr rfl (fun t ht hW => ⟨⟨_, (), rfl, rfl, kb_h hP ht⟩, hS.F ht⟩) hS.2.2 dX4_dayGoesBy_43
  refine lv_icmp_ne (tgt := 31) hx hb dX4_dayGoesBy_23 (by decide) (fun c4 => ?_) (fun c4 => ?_)
  · replace hm := ite_f c4 hm
    exact J31 v_clothState _ _ _ hm hP hS (lv_sub hl [0] rfl)
  · replace hm := ite_t c4 hm
    refine lv_aload_n hx hb dX4_dayGoesBy_26 rfl (lv_at hl 0 rfl) ?_
    refine lv_iconst (v := (0 : Int32)) hx hb dX4_dayGoesBy_27 (by decide) ?_
    refine va_put (D := (dC, dI)) (ci := 4) (v := .int (0 : Int32)) (ty := .int) (C := RX4) (T := TX4) (N := 6) hx hb hts iX4 tyX4 tyX4_ok nmX4 hown hK hP (kb_D hD rfl) hS 0 rfl rfl 3 (by decide) f26 (fun _ h9 => h9) rfl (by decide +kernel) rfl rfl (Nat.le_of_ble_eq_true rfl) dX4_dayGoesBy_28 (fun H locs hP _ hS => ?_)
    have hP : va_P (dC, dI) vwCl [oX4 a_th (.int x1) (.int v_trueDay) (.int (0 : Int32)) (.int (0 : Int32)) (.int v_cracks) q_known] H := hP
    exact J31 (0 : Int32) _ _ _ hm hP hS (lv_sub hl [0] rfl)
set_option maxHeartbeats 4000000 in
set_option maxRecDepth 100000 in
theorem c_X9_nextSeed (l : Launch) (dC : Nat → ClassId) (dI : Nat → Nat → Nat) (cI cJ cZ cQ : ClassId) (t sz : Nat) (p_0 : Int64) (o : Int64) (hm : m_X9_nextSeed p_0 = some o) : Met l yX9_nextSeed wsX9_nextSeed { frames := 0, cells := 0, slots := 0, locals := 0 } (va_Pc [.long p_0] (cP (dC, dI) (kT cI cJ cZ cQ) t sz [])) (cQl (dC, dI) (va_A [] sz) o []) 0 0 (va_A [] sz) := by
  refine Met.ofW (cc := cX9_nextSeed) (maxL := 2) (ret := (some .long)) (by decide) rfl ?_
  intro p e s m args below meth c s₁ B hml hv
  obtain ⟨rfl, hsz, hP, hK, hD0, hG⟩ := hv
  have hx := B.exec
  have hb := B.bytes
  have hr := B.returns
  have hts := atoms_spec (ws := wsX9_nextSeed) B.pre
  have hown : s.vm.findClass RX9 = some m.cls := findClass_of_methodNamed B.named
  have hlocks := B.notSynchronized
  subst hsz
  have hD := hD0.self (sz := s.heap.size)
  generalize hAe : va_A [] s.heap.size = A at hD hG ⊢
  have hA : ∀ q : Nat, s.heap.size ≤ q → A q := fun q h => by rw [← hAe]; exact Or.inr h
  have hS : va_S A s.heap s.heap [] := va_S.rf
  have hl := lv_entry ([.long p_0]) (n := 2) (Nat.le_of_ble_eq_true rfl)
  rw [lg_entry_eq]
  generalize (lg_sl ([.long p_0]) ++ List.replicate (2 - (lg_sl ([.long p_0])).length) Slot.unset).toArray = ls at hl ⊢
  have hl : lv_has ls 2 [(0, .long p_0)] := hl
  have cl306 := hts (.constantLong RX9 306 (6364136223846793005 : Int64)) (by decide +kernel)
  have cl308 := hts (.constantLong RX9 308 (1442695040888963407 : Int64)) (by decide +kernel)
  refine kb_gen (fun Q hQ => ?_)
  unfold m_X9_nextSeed at hm
  refine lv_lload_n hx hb dX9_nextSeed_0 rfl (lv_at hl 0 rfl) ?_
  refine lv_ldc2 (v := (6364136223846793005 : Int64)) hx hb hown cl306 dX9_nextSeed_1 ?_
  refine lv_lmul hx hb dX9_nextSeed_4 ?_
  refine lv_ldc2 (v := (1442695040888963407 : Int64)) hx hb hown cl308 dX9_nextSeed_5 ?_
  refine lv_ladd hx hb dX9_nextSeed_8 ?_
  obtain rfl := Option.some.inj hm
  subst hQ
  exact W.lret hx hb hr (fun t ht hW => ⟨⟨_, (), rfl, rfl, kb_h hP ht⟩, hS.F ht⟩) hS.2.2 dX9_nextSeed_9
set_option maxHeartbeats 4000000 in
set_option maxRecDepth 100000 in
theorem c_X9_drawnDay (l : Launch) (dC : Nat → ClassId) (dI : Nat → Nat → Nat) (cI cJ cZ cQ : ClassId) (t sz : Nat) (p_0 : Int64) (o : Int32) (hm : m_X9_drawnDay p_0 = some o) : Met l yX9_drawnDay wsX9_drawnDay { frames := 0, cells := 0, slots := 0, locals := 0 } (va_Pc [.long p_0] (cP (dC, dI) (kT cI cJ cZ cQ) t sz [])) (cQi (dC, dI) (va_A [] sz) o []) 0 0 (va_A [] sz) := by
  refine Met.ofW (cc := cX9_drawnDay) (maxL := 2) (ret := (some .int)) (by decide) rfl ?_
  intro p e s m args below meth c s₁ B hml hv
  obtain ⟨rfl, hsz, hP, hK, hD0, hG⟩ := hv
  have hx := B.exec
  have hb := B.bytes
  have hr := B.returns
  have hts := atoms_spec (ws := wsX9_drawnDay) B.pre
  have hown : s.vm.findClass RX9 = some m.cls := findClass_of_methodNamed B.named
  have hlocks := B.notSynchronized
  subst hsz
  have hD := hD0.self (sz := s.heap.size)
  generalize hAe : va_A [] s.heap.size = A at hD hG ⊢
  have hA : ∀ q : Nat, s.heap.size ≤ q → A q := fun q h => by rw [← hAe]; exact Or.inr h
  have hS : va_S A s.heap s.heap [] := va_S.rf
  have hl := lv_entry ([.long p_0]) (n := 2) (Nat.le_of_ble_eq_true rfl)
  rw [lg_entry_eq]
  generalize (lg_sl ([.long p_0]) ++ List.replicate (2 - (lg_sl ([.long p_0])).length) Slot.unset).toArray = ls at hl ⊢
  have hl : lv_has ls 2 [(0, .long p_0)] := hl
  have cl310 := hts (.constantLong RX9 310 (7 : Int64)) (by decide +kernel)
  refine kb_gen (fun Q hQ => ?_)
  unfold m_X9_drawnDay at hm
  refine lv_lload_n hx hb dX9_drawnDay_0 rfl (lv_at hl 0 rfl) ?_
  refine lv_bipush (v := (33 : Int32)) hx hb dX9_drawnDay_1 (by decide) ?_
  refine lv_lushr (v := (j_lushr p_0 (33 : Int32))) hx hb dX9_drawnDay_3 rfl ?_
  refine lv_ldc2 (v := (7 : Int64)) hx hb hown cl310 dX9_drawnDay_4 ?_
  refine lv_lrem hx hb dX9_drawnDay_7 (by decide) ?_
  refine lv_l2i (v := (Int64.toInt32 ((j_lushr p_0 (33 : Int32)) - (j_lushr p_0 (33 : Int32)) / (7 : Int64) * (7 : Int64)))) hx hb dX9_drawnDay_8 rfl ?_
  obtain rfl := Option.some.inj hm
  subst hQ
  exact W.iret hx hb hr (fun t ht hW => ⟨⟨_, (), rfl, rfl, kb_h hP ht⟩, hS.F ht⟩) hS.2.2 dX9_drawnDay_9
set_option maxHeartbeats 4000000 in
set_option maxRecDepth 100000 in
theorem c_X4_beginMonth (l : Launch) (dC : Nat → ClassId) (dI : Nat → Nat → Nat) (cI cJ cZ cQ : ClassId) (t sz : Nat) (a_th : Nat) (a_known : Nat) (v_date : Int32) (v_trueDay : Int32) (v_wasAsked : Int32) (v_clothState : Int32) (v_cracks : Int32) (v_known : (Nat → Int32)) (p_1 : Int32) (o : Int32 × (Nat → Int32)) (hm : m_X4_beginMonth p_1 v_trueDay v_known = some o) : Met l yX4_beginMonth wsX4_beginMonth { frames := 1, cells := 0, slots := 0, locals := 25 } (va_Pc [.ref a_th, .int p_1] (cP (dC, dI) (kT cI cJ cZ cQ) t sz [oX4 a_th (.int v_date) (.int v_trueDay) (.int v_wasAsked) (.int v_clothState) (.int v_cracks) (.ref a_known), aI cI a_known 7 v_known])) (cQv (dC, dI) (va_A [oX4 a_th (.int v_date) (.int v_trueDay) (.int v_wasAsked) (.int v_clothState) (.int v_cracks) (.ref a_known), aI cI a_known 7 v_known] sz) [oX4 a_th (.int v_date) (.int (o.1)) (.int v_wasAsked) (.int v_clothState) (.int v_cracks) (.ref a_known), aI cI a_known 7 (o.2)]) 0 0 (va_A [oX4 a_th (.int v_date) (.int v_trueDay) (.int v_wasAsked) (.int v_clothState) (.int v_cracks) (.ref a_known), aI cI a_known 7 v_known] sz) := by
  refine Met.ofW (cc := cX4_beginMonth) (maxL := 2) (ret := none) (by decide) rfl ?_
  intro p e s m args below meth c s₁ B hml hv
  obtain ⟨rfl, hsz, hP, hK, hD0, hG⟩ := hv
  have hx := B.exec
  have hb := B.bytes
  have hr := B.returns
  have hts := atoms_spec (ws := wsX4_beginMonth) B.pre
  have hown : s.vm.findClass RX4 = some m.cls := findClass_of_methodNamed B.named
  have hlocks := B.notSynchronized
  subst hsz
  have hD := hD0.self (sz := s.heap.size)
  generalize hAe : va_A [oX4 a_th (.int v_date) (.int v_trueDay) (.int v_wasAsked) (.int v_clothState) (.int v_cracks) (.ref a_known), aI cI a_known 7 v_known] s.heap.size = A at hD hG ⊢
  have hA : ∀ q : Nat, s.heap.size ≤ q → A q := fun q h => by rw [← hAe]; exact Or.inr h
  have hS : va_S A s.heap s.heap [] := va_S.rf
  have hl := lv_entry ([.ref a_th, .int p_1]) (n := 2) (Nat.le_of_ble_eq_true rfl)
  rw [lg_entry_eq]
  generalize (lg_sl ([.ref a_th, .int p_1]) ++ List.replicate (2 - (lg_sl ([.ref a_th, .int p_1])).length) Slot.unset).toArray = ls at hl ⊢
  have hl : lv_has ls 2 [(0, .ref a_th), (1, .int p_1)] := hl
  have iX4 : ∀ w ∈ wsX40, w ∈ wsX4_beginMonth := fun _ h => List.mem_cons_of_mem _ (List.mem_append_right _ h)
  have f19 := hts (.fieldLink RX4 19 "TrueOnceWeek$Moment" "trueDay" "I") (by decide +kernel)
  have f9 := hts (.fieldLink RX4 9 "TrueOnceWeek$Moment" "known" "[I") (by decide +kernel)
  refine kb_gen (fun Q hQ => ?_)
  unfold m_X4_beginMonth at hm
  refine lv_aload_n hx hb dX4_beginMonth_0 rfl (lv_at hl 0 rfl) ?_
  refine lv_iload_n hx hb dX4_beginMonth_1 rfl (lv_at hl 1 rfl) ?_
  refine va_put (D := (dC, dI)) (ci := 4) (v := .int p_1) (ty := .int) (C := RX4) (T := TX4) (N := 6) hx hb hts iX4 tyX4 tyX4_ok nmX4 hown hK hP (kb_D hD rfl) hS 0 rfl rfl 1 (by decide) f19 (fun _ h9 => h9) rfl (by decide +kernel) rfl rfl (Nat.le_of_ble_eq_true rfl) dX4_beginMonth_2 (fun H locs hP _ hS => ?_)
  have hP : va_P (dC, dI) vwCl [oX4 a_th (.int v_date) (.int p_1) (.int v_wasAsked) (.int v_clothState) (.int v_cracks) (.ref a_known), aI cI a_known 7 v_known] H := hP
  refine lv_aload_n hx hb dX4_beginMonth_5 rfl (lv_at hl 0 rfl) ?_
  refine va_get (D := (dC, dI)) (ci := 4) (v := .ref a_known) (C := RX4) (T := TX4) (N := 6) hx hb hts iX4 hown hK hP 0 rfl rfl 5 (by decide) f9 (fun _ h9 => h9) rfl dX4_beginMonth_6 ?_
  refine lv_aload_n hx hb dX4_beginMonth_9 rfl (lv_at hl 0 rfl) ?_
  refine va_get (D := (dC, dI)) (ci := 4) (v := .ref a_known) (C := RX4) (T := TX4) (N := 6) hx hb hts iX4 hown hK hP 0 rfl rfl 5 (by decide) f9 (fun _ h9 => h9) rfl dX4_beginMonth_10 ?_
  obtain ⟨r1, ho2, hm⟩ := bd1_s hm
  refine kb_calli (Rv := r1) (va_runS (As := [.ref a_known]) (rest := [.ref a_known]) ⟨hx, hb, hml, hown, hts⟩ (c_X8_casesOfAnyDay l dC dI cI cJ cZ cQ t H.size a_known 7 v_known (r1) ho2) (va_cwS 1 hts gX4_beginMonth_X8_casesOfAnyDay rfl rfl rfl (by decide +kernel) ⟨(Nat.le_of_ble_eq_true rfl), (Nat.le_of_ble_eq_true rfl)⟩) (kb_pre hK hG hP (kb_D hD rfl) hS hA [1] rfl (by decide)) rfl rfl hl.1 rfl (lv_room (Nat.le_of_ble_eq_true rfl)) dX4_beginMonth_13 ⟨Nat.zero_le _, Nat.zero_le _⟩) hP (kb_D hD rfl) hS hA [1] rfl [(false, 0), (true, 0)] (w2 := [oX4 a_th (.int v_date) (.int p_1) (.int v_wasAsked) (.int v_clothState) (.int v_cracks) (.ref a_known), aI cI a_known 7 v_known]) rfl (by decide) (fun H locs hP hS => ?_)
  obtain ⟨w3, ho4, hm⟩ := bd1_s hm
  refine kb_callv (va_runS (As := [.ref a_known, .int r1]) (rest := []) ⟨hx, hb, hml, hown, hts⟩ (c_X8_fill l dC dI cI cJ cZ cQ t H.size a_known 7 v_known r1 (w3) ho4) (va_cwS 2 hts gX4_beginMonth_X8_fill rfl rfl rfl (by decide +kernel) ⟨(Nat.le_of_ble_eq_true rfl), (Nat.le_of_ble_eq_true rfl)⟩) (kb_pre hK hG hP (kb_D hD rfl) hS hA [1] rfl (by decide)) rfl rfl hl.1 rfl (lv_room (Nat.le_of_ble_eq_true rfl)) dX4_beginMonth_16 ⟨Nat.zero_le _, Nat.zero_le _⟩) hP (kb_D hD rfl) hS hA [1] rfl [(false, 0), (true, 0)] (w2 := [oX4 a_th (.int v_date) (.int p_1) (.int v_wasAsked) (.int v_clothState) (.int v_cracks) (.ref a_known), aI cI a_known 7 w3]) rfl (by decide) (fun H locs hP hS => ?_)
  obtain rfl := Option.some.inj hm
  subst hQ
  exact W.vret hx hb hr (fun t ht hW => ⟨⟨(), rfl, trivial, kb_h hP ht⟩, hS.F ht⟩) hS.2.2 dX4_beginMonth_19
set_option maxHeartbeats 4000000 in
set_option maxRecDepth 100000 in
theorem c_X9_day (l : Launch) (dC : Nat → ClassId) (dI : Nat → Nat → Nat) (cI cJ cZ cQ : ClassId) (t sz : Nat) (a_th : Nat) (a_theActs : Nat) (a_now : Nat) (a_theActs_moments : Nat) (a_now_known : Nat) (a_theActs_seeds : Nat) (q_theText : Value) (q_theQuestion : Value) (q_theCastle : Value) (q_theTold : Value) (q_foresight : Value) (q_keptMoments : Value) (q_isKept : Value) (q_marchWorlds : Value) (v_theSeed : Int64) (v_theActs_next : Int32) (v_theActs_count : Int32) (v_now_date : Int32) (v_now_trueDay : Int32) (v_now_wasAsked : Int32) (v_now_clothState : Int32) (v_now_cracks : Int32) (v_theActs_moments : (Nat → Int32)) (v_now_known : (Nat → Int32)) (v_theActs_seeds : (Nat → Int64)) (o : Int32 × Int64 × Int32 × Int32 × Int32 × Int32 × Int32 × Int32 × (Nat → Int32) × (Nat → Int32) × (Nat → Int64)) (hm : m_X9_day v_theSeed v_theActs_next v_theActs_count v_now_date v_now_trueDay v_now_wasAsked v_now_clothState v_now_cracks v_theActs_moments v_now_known v_theActs_seeds = some o) : Met l yX9_day wsX9_day { frames := 3, cells := 0, slots := 0, locals := 146 } (va_Pc [.ref a_th] (cP (dC, dI) (kT cI cJ cZ cQ) t sz [oX9 a_th q_theText q_theQuestion q_theCastle (.ref a_now) (.ref a_theActs) q_theTold q_foresight q_keptMoments q_isKept q_marchWorlds (.long v_theSeed), oX0 a_theActs (.ref a_theActs_moments) (.ref a_theActs_seeds) (.int v_theActs_next) (.int v_theActs_count), oX4 a_now (.int v_now_date) (.int v_now_trueDay) (.int v_now_wasAsked) (.int v_now_clothState) (.int v_now_cracks) (.ref a_now_known), aI cI a_theActs_moments 120 v_theActs_moments, aI cI a_now_known 7 v_now_known, aJ cJ a_theActs_seeds 10 v_theActs_seeds])) (cQi (dC, dI) (va_A [oX9 a_th q_theText q_theQuestion q_theCastle (.ref a_now) (.ref a_theActs) q_theTold q_foresight q_keptMoments q_isKept q_marchWorlds (.long v_theSeed), oX0 a_theActs (.ref a_theActs_moments) (.ref a_theActs_seeds) (.int v_theActs_next) (.int v_theActs_count), oX4 a_now (.int v_now_date) (.int v_now_trueDay) (.int v_now_wasAsked) (.int v_now_clothState) (.int v_now_cracks) (.ref a_now_known), aI cI a_theActs_moments 120 v_theActs_moments, aI cI a_now_known 7 v_now_known, aJ cJ a_theActs_seeds 10 v_theActs_seeds] sz) o.1 [oX9 a_th q_theText q_theQuestion q_theCastle (.ref a_now) (.ref a_theActs) q_theTold q_foresight q_keptMoments q_isKept q_marchWorlds (.long (o.2.1)), oX0 a_theActs (.ref a_theActs_moments) (.ref a_theActs_seeds) (.int (o.2.2.1)) (.int (o.2.2.2.1)), oX4 a_now (.int (o.2.2.2.2.1)) (.int (o.2.2.2.2.2.1)) (.int (o.2.2.2.2.2.2.1)) (.int (o.2.2.2.2.2.2.2.1)) (.int v_now_cracks) (.ref a_now_known), aI cI a_theActs_moments 120 (o.2.2.2.2.2.2.2.2.1), aI cI a_now_known 7 (o.2.2.2.2.2.2.2.2.2.1), aJ cJ a_theActs_seeds 10 (o.2.2.2.2.2.2.2.2.2.2)]) 0 0 (va_A [oX9 a_th q_theText q_theQuestion q_theCastle (.ref a_now) (.ref a_theActs) q_theTold q_foresight q_keptMoments q_isKept q_marchWorlds (.long v_theSeed), oX0 a_theActs (.ref a_theActs_moments) (.ref a_theActs_seeds) (.int v_theActs_next) (.int v_theActs_count), oX4 a_now (.int v_now_date) (.int v_now_trueDay) (.int v_now_wasAsked) (.int v_now_clothState) (.int v_now_cracks) (.ref a_now_known), aI cI a_theActs_moments 120 v_theActs_moments, aI cI a_now_known 7 v_now_known, aJ cJ a_theActs_seeds 10 v_theActs_seeds] sz) := by
  refine Met.ofW (cc := cX9_day) (maxL := 1) (ret := (some .int)) (by decide) rfl ?_
  intro p e s m args below meth c s₁ B hml hv
  obtain ⟨rfl, hsz, hP, hK, hD0, hG⟩ := hv
  have hx := B.exec
  have hb := B.bytes
  have hr := B.returns
  have hts := atoms_spec (ws := wsX9_day) B.pre
  have hown : s.vm.findClass RX9 = some m.cls := findClass_of_methodNamed B.named
  have hlocks := B.notSynchronized
  subst hsz
  have hD := hD0.self (sz := s.heap.size)
  generalize hAe : va_A [oX9 a_th q_theText q_theQuestion q_theCastle (.ref a_now) (.ref a_theActs) q_theTold q_foresight q_keptMoments q_isKept q_marchWorlds (.long v_theSeed), oX0 a_theActs (.ref a_theActs_moments) (.ref a_theActs_seeds) (.int v_theActs_next) (.int v_theActs_count), oX4 a_now (.int v_now_date) (.int v_now_trueDay) (.int v_now_wasAsked) (.int v_now_clothState) (.int v_now_cracks) (.ref a_now_known), aI cI a_theActs_moments 120 v_theActs_moments, aI cI a_now_known 7 v_now_known, aJ cJ a_theActs_seeds 10 v_theActs_seeds] s.heap.size = A at hD hG ⊢
  have hA : ∀ q : Nat, s.heap.size ≤ q → A q := fun q h => by rw [← hAe]; exact Or.inr h
  have hS : va_S A s.heap s.heap [] := va_S.rf
  have hl := lv_entry ([.ref a_th]) (n := 1) (Nat.le_of_ble_eq_true rfl)
  rw [lg_entry_eq]
  generalize (lg_sl ([.ref a_th]) ++ List.replicate (1 - (lg_sl ([.ref a_th])).length) Slot.unset).toArray = ls at hl ⊢
  have hl : lv_has ls 1 [(0, .ref a_th)] := hl
  have iX9 : ∀ w ∈ wsX90, w ∈ wsX9_day := fun _ h => List.mem_cons_of_mem _ (List.mem_append_left _ (List.mem_append_left _ (List.mem_append_right _ h)))
  have iX4 : ∀ w ∈ wsX40, w ∈ wsX9_day := fun _ h => List.mem_cons_of_mem _ (List.mem_append_left _ (List.mem_append_right _ h))
  have iX0 : ∀ w ∈ wsX00, w ∈ wsX9_day := fun _ h => List.mem_cons_of_mem _ (List.mem_append_right _ h)
  have f42 := hts (.fieldLink RX9 42 "TrueOnceWeek" "theActs" "LTrueOnceWeek$Acts;") (by decide +kernel)
  have f35 := hts (.fieldLink RX9 35 "TrueOnceWeek" "now" "LTrueOnceWeek$Moment;") (by decide +kernel)
  have f174 := hts (.fieldLink RX9 174 "TrueOnceWeek" "theSeed" "J") (by decide +kernel)
  have f110 := va_Nw.use (A := [.ref a_th].toArray) (w := .fieldLinkNest RX9 110 "TrueOnceWeek$Moment" "date" "I" "TrueOnceWeek") rfl (hG.1 (RX9, 110, "TrueOnceWeek$Moment", "date", "I") (by decide +kernel))
  refine kb_gen (fun Q hQ => ?_)
  unfold m_X9_day at hm
  refine lv_aload_n hx hb dX9_day_0 rfl (lv_at hl 0 rfl) ?_
  refine va_get (D := (dC, dI)) (ci := 7) (v := .ref a_theActs) (C := RX9) (T := TX9) (N := 11) hx hb hts iX9 hown hK hP 0 rfl rfl 4 (by decide) f42 (fun _ h9 => h9) rfl dX9_day_1 ?_
  refine lv_aload_n hx hb dX9_day_4 rfl (lv_at hl 0 rfl) ?_
  refine va_get (D := (dC, dI)) (ci := 7) (v := .ref a_now) (C := RX9) (T := TX9) (N := 11) hx hb hts iX9 hown hK hP 0 rfl rfl 3 (by decide) f35 (fun _ h9 => h9) rfl dX9_day_5 ?_
  refine lv_aload_n hx hb dX9_day_8 rfl (lv_at hl 0 rfl) ?_
  refine va_get (D := (dC, dI)) (ci := 7) (v := .long v_theSeed) (C := RX9) (T := TX9) (N := 11) hx hb hts iX9 hown hK hP 0 rfl rfl 10 (by decide) f174 (fun _ h9 => h9) rfl dX9_day_9 ?_
  obtain ⟨w1, w2, w3, w4, ho5, hm⟩ := bd4_s hm
  refine kb_callv (va_runV (As := [.ref a_now, .long v_theSeed]) (rest := []) ⟨hx, hb, hml, hown, hts⟩ (c_X0_remember l dC dI cI cJ cZ cQ t s.heap.size a_theActs a_now a_theActs_moments a_now_known a_theActs_seeds v_theActs_next v_theActs_count v_now_date v_now_trueDay v_now_wasAsked v_now_clothState v_now_cracks v_theActs_moments v_now_known v_theActs_seeds v_theSeed (w1, w2, w3, w4) ho5) (cwV 2 hts gX9_day_X0_remember rfl rfl rfl (by decide +kernel) ⟨(Nat.le_of_ble_eq_true rfl), (Nat.le_of_ble_eq_true rfl)⟩) ⟨(kb_pre hK hG hP (kb_D hD rfl) hS hA [1, 2, 3, 4, 5] rfl (by decide)).1, (va_recv hK hP (ci := 0) (q0 := 1) rfl rfl), (kb_pre hK hG hP (kb_D hD rfl) hS hA [1, 2, 3, 4, 5] rfl (by decide)).2⟩ rfl rfl hl.1 rfl (lv_room (Nat.le_of_ble_eq_true rfl)) dX9_day_12 ⟨Nat.zero_le _, Nat.zero_le _⟩) hP (kb_D hD rfl) hS hA [1, 2, 3, 4, 5] rfl [(false, 0), (true, 0), (true, 1), (true, 2), (true, 3), (true, 4)] (w2 := [oX9 a_th q_theText q_theQuestion q_theCastle (.ref a_now) (.ref a_theActs) q_theTold q_foresight q_keptMoments q_isKept q_marchWorlds (.long v_theSeed), oX0 a_theActs (.ref a_theActs_moments) (.ref a_theActs_seeds) (.int w1) (.int w2), oX4 a_now (.int v_now_date) (.int v_now_trueDay) (.int v_now_wasAsked) (.int v_now_clothState) (.int v_now_cracks) (.ref a_now_known), aI cI a_theActs_moments 120 w3, aI cI a_now_known 7 v_now_known, aJ cJ a_theActs_seeds 10 w4]) rfl (by decide) (fun H locs hP hS => ?_)
  refine lv_aload_n hx hb dX9_day_15 rfl (lv_at hl 0 rfl) ?_
  refine va_get (D := (dC, dI)) (ci := 7) (v := .ref a_now) (C := RX9) (T := TX9) (N := 11) hx hb hts iX9 hown hK hP 0 rfl rfl 3 (by decide) f35 (fun _ h9 => h9) rfl dX9_day_16 ?_
  obtain ⟨r6, w7, w8, w9, ho10, hm⟩ := bd4_s hm
  refine kb_calli (Rv := r6) (va_runV (As := []) (rest := []) ⟨hx, hb, hml, hown, hts⟩ (c_X4_dayGoesBy l dC dI cI cJ cZ cQ t H.size a_now (.ref a_now_known) v_now_date v_now_trueDay v_now_wasAsked v_now_clothState v_now_cracks (r6, w7, w8, w9) ho10) (cwV 0 hts gX9_day_X4_dayGoesBy rfl rfl rfl (by decide +kernel) ⟨(Nat.le_of_ble_eq_true rfl), (Nat.le_of_ble_eq_true rfl)⟩) ⟨(kb_pre hK hG hP (kb_D hD rfl) hS hA [2] rfl (by decide)).1, (va_recv hK hP (ci := 4) (q0 := 2) rfl rfl), (kb_pre hK hG hP (kb_D hD rfl) hS hA [2] rfl (by decide)).2⟩ rfl rfl hl.1 rfl (lv_room (Nat.le_of_ble_eq_true rfl)) dX9_day_19 ⟨Nat.zero_le _, Nat.zero_le _⟩) hP (kb_D hD rfl) hS hA [2] rfl [(false, 0), (false, 1), (true, 0), (false, 3), (false, 4), (false, 5)] (w2 := [oX9 a_th q_theText q_theQuestion q_theCastle (.ref a_now) (.ref a_theActs) q_theTold q_foresight q_keptMoments q_isKept q_marchWorlds (.long v_theSeed), oX0 a_theActs (.ref a_theActs_moments) (.ref a_theActs_seeds) (.int w1) (.int w2), oX4 a_now (.int w7) (.int v_now_trueDay) (.int w8) (.int w9) (.int v_now_cracks) (.ref a_now_known), aI cI a_theActs_moments 120 w3, aI cI a_now_known 7 v_now_known, aJ cJ a_theActs_seeds 10 w4]) rfl (by decide) (fun H locs hP hS => ?_)
  obtain ⟨k50, ek50, hm⟩ := nm_s hm
  have J50 : ∀ (w11 : Int64) (w12 : Int32) (w13 : (Nat → Int32)) (H : Heap) (locs : List Loc) (ls : Array Slot), k50 w11 w12 w13 = some o → va_P (dC, dI) vwCl [oX9 a_th q_theText q_theQuestion q_theCastle (.ref a_now) (.ref a_theActs) q_theTold q_foresight q_keptMoments q_isKept q_marchWorlds (.long w11), oX0 a_theActs (.ref a_theActs_moments) (.ref a_theActs_seeds) (.int w1) (.int w2), oX4 a_now (.int w7) (.int w12) (.int w8) (.int w9) (.int v_now_cracks) (.ref a_now_known), aI cI a_theActs_moments 120 w3, aI cI a_now_known 7 w13, aJ cJ a_theActs_seeds 10 w4] H → va_S A s.heap H locs → lv_has ls 1 [(0, .ref a_th)] → W p l e (headSpec wsX9_day { frames := 3, cells := 0, slots := 0, locals := 146 }).room s m [.ref a_th].toArray below meth c H locs 0 0 Q (F0 m 50 ls []) := by
    intro w11 w12 w13 H locs ls hm hP hS hl
    rw [ek50] at hm
    refine lv_aload_n hx hb dX9_day_50 rfl (lv_at hl 0 rfl) ?_
    refine va_get (D := (dC, dI)) (ci := 7) (v := .ref a_now) (C := RX9) (T := TX9) (N := 11) hx hb hts iX9 hown hK hP 0 rfl rfl 3 (by decide) f35 (fun _ h9 => h9) rfl dX9_day_51 ?_
    refine va_getN (D := (dC, dI)) (ci := 4) (v := .int w7) (C := RX4) (T := TX4) (N := 6) hx hb hts iX4 hown hK hP 2 rfl rfl 0 (by decide) f110 (fun _ h9 => h9) rfl dX9_day_54 ?_
    obtain rfl := Option.some.inj hm
    subst hQ
    exact W.iret hx hb hr (fun t ht hW => ⟨⟨_, (), rfl, rfl, kb_h hP ht⟩, hS.F ht⟩) hS.2.2 dX9_day_57
  refine lv_if_eq (tgt := 50) hx hb dX9_day_22 (by decide) (fun c14 => ?_) (fun c14 => ?_)
  · replace hm := ite_t c14 hm
    exact J50 v_theSeed v_now_trueDay v_now_known _ _ _ hm hP hS (lv_sub hl [0] rfl)
  · replace hm := ite_f c14 hm
    refine lv_aload_n hx hb dX9_day_25 rfl (lv_at hl 0 rfl) ?_
    refine lv_aload_n hx hb dX9_day_26 rfl (lv_at hl 0 rfl) ?_
    refine va_get (D := (dC, dI)) (ci := 7) (v := .long v_theSeed) (C := RX9) (T := TX9) (N := 11) hx hb hts iX9 hown hK hP 0 rfl rfl 10 (by decide) f174 (fun _ h9 => h9) rfl dX9_day_27 ?_
    obtain ⟨r15, ho16, hm⟩ := bd1_s hm
    refine kb_calll (Rv := r15) (va_runS (As := [.long v_theSeed]) (rest := [.ref a_th]) ⟨hx, hb, hml, hown, hts⟩ (c_X9_nextSeed l dC dI cI cJ cZ cQ t H.size v_theSeed (r15) ho16) (va_cwS 1 hts gX9_day_X9_nextSeed rfl rfl rfl (by decide +kernel) ⟨(Nat.le_of_ble_eq_true rfl), (Nat.le_of_ble_eq_true rfl)⟩) (kb_pre hK hG hP (kb_D hD rfl) hS hA [] rfl (by decide)) rfl rfl hl.1 rfl (lv_room (Nat.le_of_ble_eq_true rfl)) dX9_day_30 ⟨Nat.zero_le _, Nat.zero_le _⟩) hP (kb_D hD rfl) hS hA [] rfl [(false, 0), (false, 1), (false, 2), (false, 3), (false, 4), (false, 5)] (w2 := [oX9 a_th q_theText q_theQuestion q_theCastle (.ref a_now) (.ref a_theActs) q_theTold q_foresight q_keptMoments q_isKept q_marchWorlds (.long v_theSeed), oX0 a_theActs (.ref a_theActs_moments) (.ref a_theActs_seeds) (.int w1) (.int w2), oX4 a_now (.int w7) (.int v_now_trueDay) (.int w8) (.int w9) (.int v_now_cracks) (.ref a_now_known), aI cI a_theActs_moments 120 w3, aI cI a_now_known 7 v_now_known, aJ cJ a_theActs_seeds 10 w4]) rfl (by decide) (fun H locs hP hS => ?_)
    refine va_put (D := (dC, dI)) (ci := 7) (v := .long r15) (ty := .long) (C := RX9) (T := TX9) (N := 11) hx hb hts iX9 tyX9 tyX9_ok nmX9 hown hK hP (kb_D hD rfl) hS 0 rfl rfl 10 (by decide) f174 (fun _ h9 => h9) rfl (by decide +kernel) rfl rfl (Nat.le_of_ble_eq_true rfl) dX9_day_33 (fun H locs hP _ hS => ?_)
    have hP : va_P (dC, dI) vwCl [oX9 a_th q_theText q_theQuestion q_theCastle (.ref a_now) (.ref a_theActs) q_theTold q_foresight q_keptMoments q_isKept q_marchWorlds (.long r15), oX0 a_theActs (.ref a_theActs_moments) (.ref a_theActs_seeds) (.int w1) (.int w2), oX4 a_now (.int w7) (.int v_now_trueDay) (.int w8) (.int w9) (.int v_now_cracks) (.ref a_now_known), aI cI a_theActs_moments 120 w3, aI cI a_now_known 7 v_now_known, aJ cJ a_theActs_seeds 10 w4] H := hP
    refine lv_aload_n hx hb dX9_day_36 rfl (lv_at hl 0 rfl) ?_
    refine va_get (D := (dC, dI)) (ci := 7) (v := .ref a_now) (C := RX9) (T := TX9) (N := 11) hx hb hts iX9 hown hK hP 0 rfl rfl 3 (by decide) f35 (fun _ h9 => h9) rfl dX9_day_37 ?_
    refine lv_aload_n hx hb dX9_day_40 rfl (lv_at hl 0 rfl) ?_
    refine va_get (D := (dC, dI)) (ci := 7) (v := .long r15) (C := RX9) (T := TX9) (N := 11) hx hb hts iX9 hown hK hP 0 rfl rfl 10 (by decide) f174 (fun _ h9 => h9) rfl dX9_day_41 ?_
    obtain ⟨r17, ho18, hm⟩ := bd1_s hm
    refine kb_calli (Rv := r17) (va_runS (As := [.long r15]) (rest := [.ref a_now]) ⟨hx, hb, hml, hown, hts⟩ (c_X9_drawnDay l dC dI cI cJ cZ cQ t H.size r15 (r17) ho18) (va_cwS 1 hts gX9_day_X9_drawnDay rfl rfl rfl (by decide +kernel) ⟨(Nat.le_of_ble_eq_true rfl), (Nat.le_of_ble_eq_true rfl)⟩) (kb_pre hK hG hP (kb_D hD rfl) hS hA [] rfl (by decide)) rfl rfl hl.1 rfl (lv_room (Nat.le_of_ble_eq_true rfl)) dX9_day_44 ⟨Nat.zero_le _, Nat.zero_le _⟩) hP (kb_D hD rfl) hS hA [] rfl [(false, 0), (false, 1), (false, 2), (false, 3), (false, 4), (false, 5)] (w2 := [oX9 a_th q_theText q_theQuestion q_theCastle (.ref a_now) (.ref a_theActs) q_theTold q_foresight q_keptMoments q_isKept q_marchWorlds (.long r15), oX0 a_theActs (.ref a_theActs_moments) (.ref a_theActs_seeds) (.int w1) (.int w2), oX4 a_now (.int w7) (.int v_now_trueDay) (.int w8) (.int w9) (.int v_now_cracks) (.ref a_now_known), aI cI a_theActs_moments 120 w3, aI cI a_now_known 7 v_now_known, aJ cJ a_theActs_seeds 10 w4]) rfl (by decide) (fun H locs hP hS => ?_)
    obtain ⟨w19, w20, ho21, hm⟩ := bd2_s hm
    refine kb_callv (va_runV (As := [.int r17]) (rest := []) ⟨hx, hb, hml, hown, hts⟩ (c_X4_beginMonth l dC dI cI cJ cZ cQ t H.size a_now a_now_known w7 v_now_trueDay w8 w9 v_now_cracks v_now_known r17 (w19, w20) ho21) (cwV 1 hts gX9_day_X4_beginMonth rfl rfl rfl (by decide +kernel) ⟨(Nat.le_of_ble_eq_true rfl), (Nat.le_of_ble_eq_true rfl)⟩) ⟨(kb_pre hK hG hP (kb_D hD rfl) hS hA [2, 4] rfl (by decide)).1, (va_recv hK hP (ci := 4) (q0 := 2) rfl rfl), (kb_pre hK hG hP (kb_D hD rfl) hS hA [2, 4] rfl (by decide)).2⟩ rfl rfl hl.1 rfl (lv_room (Nat.le_of_ble_eq_true rfl)) dX9_day_47 ⟨Nat.zero_le _, Nat.zero_le _⟩) hP (kb_D hD rfl) hS hA [2, 4] rfl [(false, 0), (false, 1), (true, 0), (false, 3), (true, 1), (false, 5)] (w2 := [oX9 a_th q_theText q_theQuestion q_theCastle (.ref a_now) (.ref a_theActs) q_theTold q_foresight q_keptMoments q_isKept q_marchWorlds (.long r15), oX0 a_theActs (.ref a_theActs_moments) (.ref a_theActs_seeds) (.int w1) (.int w2), oX4 a_now (.int w7) (.int w19) (.int w8) (.int w9) (.int v_now_cracks) (.ref a_now_known), aI cI a_theActs_moments 120 w3, aI cI a_now_known 7 w20, aJ cJ a_theActs_seeds 10 w4]) rfl (by decide) (fun H locs hP hS => ?_)
    exact J50 r15 w19 w20 _ _ _ hm hP hS (lv_sub hl [0] rfl)
set_option maxHeartbeats 4000000 in
set_option maxRecDepth 100000 in
theorem c_X9_cloth (l : Launch) (dC : Nat → ClassId) (dI : Nat → Nat → Nat) (cI cJ cZ cQ : ClassId) (t sz : Nat) (a_th : Nat) (a_theActs : Nat) (a_now : Nat) (a_theActs_moments : Nat) (a_now_known : Nat) (a_theActs_seeds : Nat) (q_theText : Value) (q_theQuestion : Value) (q_theCastle : Value) (q_theTold : Value) (q_foresight : Value) (q_keptMoments : Value) (q_isKept : Value) (q_marchWorlds : Value) (v_theSeed : Int64) (v_theActs_next : Int32) (v_theActs_count : Int32) (v_now_date : Int32) (v_now_trueDay : Int32) (v_now_wasAsked : Int32) (v_now_clothState : Int32) (v_now_cracks : Int32) (v_theActs_moments : (Nat → Int32)) (v_now_known : (Nat → Int32)) (v_theActs_seeds : (Nat → Int64)) (o : Int32 × Int32 × Int32 × Int32 × (Nat → Int32) × (Nat → Int64)) (hm : m_X9_cloth v_theSeed v_theActs_next v_theActs_count v_now_date v_now_trueDay v_now_wasAsked v_now_clothState v_now_cracks v_theActs_moments v_now_known v_theActs_seeds = some o) : Met l yX9_cloth wsX9_cloth { frames := 3, cells := 0, slots := 0, locals := 146 } (va_Pc [.ref a_th] (cP (dC, dI) (kT cI cJ cZ cQ) t sz [oX9 a_th q_theText q_theQuestion q_theCastle (.ref a_now) (.ref a_theActs) q_theTold q_foresight q_keptMoments q_isKept q_marchWorlds (.long v_theSeed), oX0 a_theActs (.ref a_theActs_moments) (.ref a_theActs_seeds) (.int v_theActs_next) (.int v_theActs_count), oX4 a_now (.int v_now_date) (.int v_now_trueDay) (.int v_now_wasAsked) (.int v_now_clothState) (.int v_now_cracks) (.ref a_now_known), aI cI a_theActs_moments 120 v_theActs_moments, aI cI a_now_known 7 v_now_known, aJ cJ a_theActs_seeds 10 v_theActs_seeds])) (cQi (dC, dI) (va_A [oX9 a_th q_theText q_theQuestion q_theCastle (.ref a_now) (.ref a_theActs) q_theTold q_foresight q_keptMoments q_isKept q_marchWorlds (.long v_theSeed), oX0 a_theActs (.ref a_theActs_moments) (.ref a_theActs_seeds) (.int v_theActs_next) (.int v_theActs_count), oX4 a_now (.int v_now_date) (.int v_now_trueDay) (.int v_now_wasAsked) (.int v_now_clothState) (.int v_now_cracks) (.ref a_now_known), aI cI a_theActs_moments 120 v_theActs_moments, aI cI a_now_known 7 v_now_known, aJ cJ a_theActs_seeds 10 v_theActs_seeds] sz) o.1 [oX9 a_th q_theText q_theQuestion q_theCastle (.ref a_now) (.ref a_theActs) q_theTold q_foresight q_keptMoments q_isKept q_marchWorlds (.long v_theSeed), oX0 a_theActs (.ref a_theActs_moments) (.ref a_theActs_seeds) (.int (o.2.1)) (.int (o.2.2.1)), oX4 a_now (.int v_now_date) (.int v_now_trueDay) (.int v_now_wasAsked) (.int (o.2.2.2.1)) (.int v_now_cracks) (.ref a_now_known), aI cI a_theActs_moments 120 (o.2.2.2.2.1), aI cI a_now_known 7 v_now_known, aJ cJ a_theActs_seeds 10 (o.2.2.2.2.2)]) 0 0 (va_A [oX9 a_th q_theText q_theQuestion q_theCastle (.ref a_now) (.ref a_theActs) q_theTold q_foresight q_keptMoments q_isKept q_marchWorlds (.long v_theSeed), oX0 a_theActs (.ref a_theActs_moments) (.ref a_theActs_seeds) (.int v_theActs_next) (.int v_theActs_count), oX4 a_now (.int v_now_date) (.int v_now_trueDay) (.int v_now_wasAsked) (.int v_now_clothState) (.int v_now_cracks) (.ref a_now_known), aI cI a_theActs_moments 120 v_theActs_moments, aI cI a_now_known 7 v_now_known, aJ cJ a_theActs_seeds 10 v_theActs_seeds] sz) := by
  refine Met.ofW (cc := cX9_cloth) (maxL := 1) (ret := (some .int)) (by decide) rfl ?_
  intro p e s m args below meth c s₁ B hml hv
  obtain ⟨rfl, hsz, hP, hK, hD0, hG⟩ := hv
  have hx := B.exec
  have hb := B.bytes
  have hr := B.returns
  have hts := atoms_spec (ws := wsX9_cloth) B.pre
  have hown : s.vm.findClass RX9 = some m.cls := findClass_of_methodNamed B.named
  have hlocks := B.notSynchronized
  subst hsz
  have hD := hD0.self (sz := s.heap.size)
  generalize hAe : va_A [oX9 a_th q_theText q_theQuestion q_theCastle (.ref a_now) (.ref a_theActs) q_theTold q_foresight q_keptMoments q_isKept q_marchWorlds (.long v_theSeed), oX0 a_theActs (.ref a_theActs_moments) (.ref a_theActs_seeds) (.int v_theActs_next) (.int v_theActs_count), oX4 a_now (.int v_now_date) (.int v_now_trueDay) (.int v_now_wasAsked) (.int v_now_clothState) (.int v_now_cracks) (.ref a_now_known), aI cI a_theActs_moments 120 v_theActs_moments, aI cI a_now_known 7 v_now_known, aJ cJ a_theActs_seeds 10 v_theActs_seeds] s.heap.size = A at hD hG ⊢
  have hA : ∀ q : Nat, s.heap.size ≤ q → A q := fun q h => by rw [← hAe]; exact Or.inr h
  have hS : va_S A s.heap s.heap [] := va_S.rf
  have hl := lv_entry ([.ref a_th]) (n := 1) (Nat.le_of_ble_eq_true rfl)
  rw [lg_entry_eq]
  generalize (lg_sl ([.ref a_th]) ++ List.replicate (1 - (lg_sl ([.ref a_th])).length) Slot.unset).toArray = ls at hl ⊢
  have hl : lv_has ls 1 [(0, .ref a_th)] := hl
  have iX9 : ∀ w ∈ wsX90, w ∈ wsX9_cloth := fun _ h => List.mem_cons_of_mem _ (List.mem_append_left _ (List.mem_append_left _ (List.mem_append_right _ h)))
  have iX4 : ∀ w ∈ wsX40, w ∈ wsX9_cloth := fun _ h => List.mem_cons_of_mem _ (List.mem_append_left _ (List.mem_append_right _ h))
  have iX0 : ∀ w ∈ wsX00, w ∈ wsX9_cloth := fun _ h => List.mem_cons_of_mem _ (List.mem_append_right _ h)
  have f42 := hts (.fieldLink RX9 42 "TrueOnceWeek" "theActs" "LTrueOnceWeek$Acts;") (by decide +kernel)
  have f35 := hts (.fieldLink RX9 35 "TrueOnceWeek" "now" "LTrueOnceWeek$Moment;") (by decide +kernel)
  have f174 := hts (.fieldLink RX9 174 "TrueOnceWeek" "theSeed" "J") (by decide +kernel)
  have f126 := va_Nw.use (A := [.ref a_th].toArray) (w := .fieldLinkNest RX9 126 "TrueOnceWeek$Moment" "clothState" "I" "TrueOnceWeek") rfl (hG.1 (RX9, 126, "TrueOnceWeek$Moment", "clothState", "I") (by decide +kernel))
  refine kb_gen (fun Q hQ => ?_)
  unfold m_X9_cloth at hm
  refine lv_aload_n hx hb dX9_cloth_0 rfl (lv_at hl 0 rfl) ?_
  refine va_get (D := (dC, dI)) (ci := 7) (v := .ref a_theActs) (C := RX9) (T := TX9) (N := 11) hx hb hts iX9 hown hK hP 0 rfl rfl 4 (by decide) f42 (fun _ h9 => h9) rfl dX9_cloth_1 ?_
  refine lv_aload_n hx hb dX9_cloth_4 rfl (lv_at hl 0 rfl) ?_
  refine va_get (D := (dC, dI)) (ci := 7) (v := .ref a_now) (C := RX9) (T := TX9) (N := 11) hx hb hts iX9 hown hK hP 0 rfl rfl 3 (by decide) f35 (fun _ h9 => h9) rfl dX9_cloth_5 ?_
  refine lv_aload_n hx hb dX9_cloth_8 rfl (lv_at hl 0 rfl) ?_
  refine va_get (D := (dC, dI)) (ci := 7) (v := .long v_theSeed) (C := RX9) (T := TX9) (N := 11) hx hb hts iX9 hown hK hP 0 rfl rfl 10 (by decide) f174 (fun _ h9 => h9) rfl dX9_cloth_9 ?_
  obtain ⟨w1, w2, w3, w4, ho5, hm⟩ := bd4_s hm
  refine kb_callv (va_runV (As := [.ref a_now, .long v_theSeed]) (rest := []) ⟨hx, hb, hml, hown, hts⟩ (c_X0_remember l dC dI cI cJ cZ cQ t s.heap.size a_theActs a_now a_theActs_moments a_now_known a_theActs_seeds v_theActs_next v_theActs_count v_now_date v_now_trueDay v_now_wasAsked v_now_clothState v_now_cracks v_theActs_moments v_now_known v_theActs_seeds v_theSeed (w1, w2, w3, w4) ho5) (cwV 2 hts gX9_cloth_X0_remember rfl rfl rfl (by decide +kernel) ⟨(Nat.le_of_ble_eq_true rfl), (Nat.le_of_ble_eq_true rfl)⟩) ⟨(kb_pre hK hG hP (kb_D hD rfl) hS hA [1, 2, 3, 4, 5] rfl (by decide)).1, (va_recv hK hP (ci := 0) (q0 := 1) rfl rfl), (kb_pre hK hG hP (kb_D hD rfl) hS hA [1, 2, 3, 4, 5] rfl (by decide)).2⟩ rfl rfl hl.1 rfl (lv_room (Nat.le_of_ble_eq_true rfl)) dX9_cloth_12 ⟨Nat.zero_le _, Nat.zero_le _⟩) hP (kb_D hD rfl) hS hA [1, 2, 3, 4, 5] rfl [(false, 0), (true, 0), (true, 1), (true, 2), (true, 3), (true, 4)] (w2 := [oX9 a_th q_theText q_theQuestion q_theCastle (.ref a_now) (.ref a_theActs) q_theTold q_foresight q_keptMoments q_isKept q_marchWorlds (.long v_theSeed), oX0 a_theActs (.ref a_theActs_moments) (.ref a_theActs_seeds) (.int w1) (.int w2), oX4 a_now (.int v_now_date) (.int v_now_trueDay) (.int v_now_wasAsked) (.int v_now_clothState) (.int v_now_cracks) (.ref a_now_known), aI cI a_theActs_moments 120 w3, aI cI a_now_known 7 v_now_known, aJ cJ a_theActs_seeds 10 w4]) rfl (by decide) (fun H locs hP hS => ?_)
  refine lv_aload_n hx hb dX9_cloth_15 rfl (lv_at hl 0 rfl) ?_
  refine va_get (D := (dC, dI)) (ci := 7) (v := .ref a_now) (C := RX9) (T := TX9) (N := 11) hx hb hts iX9 hown hK hP 0 rfl rfl 3 (by decide) f35 (fun _ h9 => h9) rfl dX9_cloth_16 ?_
  refine lv_aload_n hx hb dX9_cloth_19 rfl (lv_at hl 0 rfl) ?_
  refine va_get (D := (dC, dI)) (ci := 7) (v := .ref a_now) (C := RX9) (T := TX9) (N := 11) hx hb hts iX9 hown hK hP 0 rfl rfl 3 (by decide) f35 (fun _ h9 => h9) rfl dX9_cloth_20 ?_
  refine va_getN (D := (dC, dI)) (ci := 4) (v := .int v_now_clothState) (C := RX4) (T := TX4) (N := 6) hx hb hts iX4 hown hK hP 2 rfl rfl 3 (by decide) f126 (fun _ h9 => h9) rfl dX9_cloth_23 ?_
  refine lv_iconst (v := (1 : Int32)) hx hb dX9_cloth_26 (by decide) ?_
  obtain ⟨k35, ek35, hm⟩ := nm_s hm
  have J35 : ∀ (x6 : Int32) (H : Heap) (locs : List Loc) (ls : Array Slot), k35 x6 = some o → va_P (dC, dI) vwCl [oX9 a_th q_theText q_theQuestion q_theCastle (.ref a_now) (.ref a_theActs) q_theTold q_foresight q_keptMoments q_isKept q_marchWorlds (.long v_theSeed), oX0 a_theActs (.ref a_theActs_moments) (.ref a_theActs_seeds) (.int w1) (.int w2), oX4 a_now (.int v_now_date) (.int v_now_trueDay) (.int v_now_wasAsked) (.int v_now_clothState) (.int v_now_cracks) (.ref a_now_known), aI cI a_theActs_moments 120 w3, aI cI a_now_known 7 v_now_known, aJ cJ a_theActs_seeds 10 w4] H → va_S A s.heap H locs → lv_has ls 1 [(0, .ref a_th)] → W p l e (headSpec wsX9_cloth { frames := 3, cells := 0, slots := 0, locals := 146 }).room s m [.ref a_th].toArray below meth c H locs 0 0 Q (F0 m 35 ls [.int x6, .ref a_now]) := by
    intro x6 H locs ls hm hP hS hl
    rw [ek35] at hm
    refine va_putN (D := (dC, dI)) (ci := 4) (v := .int x6) (ty := .int) (C := RX4) (T := TX4) (N := 6) hx hb hts iX4 tyX4 tyX4_ok nmX4 hown hK hP (kb_D hD rfl) hS 2 rfl rfl 3 (by decide) f126 (fun _ h9 => h9) rfl (by decide +kernel) rfl rfl (Nat.le_of_ble_eq_true rfl) dX9_cloth_35 (fun H locs hP _ hS => ?_)
    have hP : va_P (dC, dI) vwCl [oX9 a_th q_theText q_theQuestion q_theCastle (.ref a_now) (.ref a_theActs) q_theTold q_foresight q_keptMoments q_isKept q_marchWorlds (.long v_theSeed), oX0 a_theActs (.ref a_theActs_moments) (.ref a_theActs_seeds) (.int w1) (.int w2), oX4 a_now (.int v_now_date) (.int v_now_trueDay) (.int v_now_wasAsked) (.int x6) (.int v_now_cracks) (.ref a_now_known), aI cI a_theActs_moments 120 w3, aI cI a_now_known 7 v_now_known, aJ cJ a_theActs_seeds 10 w4] H := hP
    refine lv_aload_n hx hb dX9_cloth_38 rfl (lv_at hl 0 rfl) ?_
    refine va_get (D := (dC, dI)) (ci := 7) (v := .ref a_now) (C := RX9) (T := TX9) (N := 11) hx hb hts iX9 hown hK hP 0 rfl rfl 3 (by decide) f35 (fun _ h9 => h9) rfl dX9_cloth_39 ?_
    refine va_getN (D := (dC, dI)) (ci := 4) (v := .int x6) (C := RX4) (T := TX4) (N := 6) hx hb hts iX4 hown hK hP 2 rfl rfl 3 (by decide) f126 (fun _ h9 => h9) rfl dX9_cloth_42 ?_
    refine lv_iconst (v := (1 : Int32)) hx hb dX9_cloth_45 (by decide) ?_
    refine lv_icmp_ne (tgt := 53) hx hb dX9_cloth_46 (by decide) (fun c7 => ?_) (fun c7 => ?_)
    · replace hm := ite_f c7 hm
      refine lv_iconst (v := (0 : Int32)) hx hb dX9_cloth_53 (by decide) ?_
      obtain rfl := Option.some.inj hm
      subst hQ
      exact W.iret hx hb hr (fun t ht hW => ⟨⟨_, (), rfl, rfl, kb_h hP ht⟩, hS.F ht⟩) hS.2.2 dX9_cloth_54
    · replace hm := ite_t c7 hm
      refine lv_iconst (v := (1 : Int32)) hx hb dX9_cloth_49 (by decide) ?_
      refine lv_goto (tgt := 54) hx hb dX9_cloth_50 (by decide) ?_
      obtain rfl := Option.some.inj hm
      subst hQ
      exact W.iret hx hb hr (fun t ht hW => ⟨⟨_, (), rfl, rfl, kb_h hP ht⟩, hS.F ht⟩) hS.2.2 dX9_cloth_54
  refine lv_icmp_ne (tgt := 34) hx hb dX9_cloth_27 (by decide) (fun c8 => ?_) (fun c8 => ?_)
  · replace hm := ite_f c8 hm
    refine lv_iconst (v := (1 : Int32)) hx hb dX9_cloth_34 (by decide) ?_
    exact J35 (1 : Int32) _ _ _ hm hP hS (lv_sub hl [0] rfl)
  · replace hm := ite_t c8 hm
    refine lv_iconst (v := (2 : Int32)) hx hb dX9_cloth_30 (by decide) ?_
    refine lv_goto (tgt := 35) hx hb dX9_cloth_31 (by decide) ?_
    exact J35 (2 : Int32) _ _ _ hm hP hS (lv_sub hl [0] rfl)
set_option maxHeartbeats 4000000 in
set_option maxRecDepth 100000 in
theorem c_X4_loadFrom (l : Launch) (dC : Nat → ClassId) (dI : Nat → Nat → Nat) (cI cJ cZ cQ : ClassId) (t sz : Nat) (a_th : Nat) (a_p1 : Nat) (a_known : Nat) (n_p1 : Nat) (v_date : Int32) (v_trueDay : Int32) (v_wasAsked : Int32) (v_clothState : Int32) (v_cracks : Int32) (v_p1 : (Nat → Int32)) (v_known : (Nat → Int32)) (p_2 : Int32) (o : Int32 × Int32 × Int32 × Int32 × Int32 × (Nat → Int32)) (hm : m_X4_loadFrom p_2 n_p1 v_date v_trueDay v_wasAsked v_clothState v_cracks v_p1 v_known = some o) : Met l yX4_loadFrom wsX4_loadFrom { frames := 1, cells := 0, slots := 0, locals := 100 } (va_Pc [.ref a_th, .ref a_p1, .int p_2] (cP (dC, dI) (kT cI cJ cZ cQ) t sz [oX4 a_th (.int v_date) (.int v_trueDay) (.int v_wasAsked) (.int v_clothState) (.int v_cracks) (.ref a_known), aI cI a_p1 n_p1 v_p1, aI cI a_known 7 v_known])) (cQv (dC, dI) (va_A [oX4 a_th (.int v_date) (.int v_trueDay) (.int v_wasAsked) (.int v_clothState) (.int v_cracks) (.ref a_known), aI cI a_p1 n_p1 v_p1, aI cI a_known 7 v_known] sz) [oX4 a_th (.int (o.1)) (.int (o.2.1)) (.int (o.2.2.1)) (.int (o.2.2.2.1)) (.int (o.2.2.2.2.1)) (.ref a_known), aI cI a_p1 n_p1 v_p1, aI cI a_known 7 (o.2.2.2.2.2)]) 0 0 (va_A [oX4 a_th (.int v_date) (.int v_trueDay) (.int v_wasAsked) (.int v_clothState) (.int v_cracks) (.ref a_known), aI cI a_p1 n_p1 v_p1, aI cI a_known 7 v_known] sz) := by
  refine Met.ofW (cc := cX4_loadFrom) (maxL := 4) (ret := none) (by decide) rfl ?_
  intro p e s m args below meth c s₁ B hml hv
  obtain ⟨rfl, hsz, hP, hK, hD0, hG⟩ := hv
  have hx := B.exec
  have hb := B.bytes
  have hr := B.returns
  have hts := atoms_spec (ws := wsX4_loadFrom) B.pre
  have hown : s.vm.findClass RX4 = some m.cls := findClass_of_methodNamed B.named
  have hlocks := B.notSynchronized
  subst hsz
  have hD := hD0.self (sz := s.heap.size)
  generalize hAe : va_A [oX4 a_th (.int v_date) (.int v_trueDay) (.int v_wasAsked) (.int v_clothState) (.int v_cracks) (.ref a_known), aI cI a_p1 n_p1 v_p1, aI cI a_known 7 v_known] s.heap.size = A at hD hG ⊢
  have hA : ∀ q : Nat, s.heap.size ≤ q → A q := fun q h => by rw [← hAe]; exact Or.inr h
  have hS : va_S A s.heap s.heap [] := va_S.rf
  have hl := lv_entry ([.ref a_th, .ref a_p1, .int p_2]) (n := 4) (Nat.le_of_ble_eq_true rfl)
  rw [lg_entry_eq]
  generalize (lg_sl ([.ref a_th, .ref a_p1, .int p_2]) ++ List.replicate (4 - (lg_sl ([.ref a_th, .ref a_p1, .int p_2])).length) Slot.unset).toArray = ls at hl ⊢
  have hl : lv_has ls 4 [(0, .ref a_th), (1, .ref a_p1), (2, .int p_2)] := hl
  have iX4 : ∀ w ∈ wsX40, w ∈ wsX4_loadFrom := fun _ h => List.mem_cons_of_mem _ (List.mem_append_right _ h)
  have f15 := hts (.fieldLink RX4 15 "TrueOnceWeek$Moment" "date" "I") (by decide +kernel)
  have f19 := hts (.fieldLink RX4 19 "TrueOnceWeek$Moment" "trueDay" "I") (by decide +kernel)
  have f22 := hts (.fieldLink RX4 22 "TrueOnceWeek$Moment" "wasAsked" "Z") (by decide +kernel)
  have f26 := hts (.fieldLink RX4 26 "TrueOnceWeek$Moment" "clothState" "I") (by decide +kernel)
  have f29 := hts (.fieldLink RX4 29 "TrueOnceWeek$Moment" "cracks" "I") (by decide +kernel)
  have f9 := hts (.fieldLink RX4 9 "TrueOnceWeek$Moment" "known" "[I") (by decide +kernel)
  have ml42 := hts (.methodLink RX4 42 arraycopyName) (by decide +kernel)
  have mn42 := hts (.native arraycopyName) (by decide +kernel)
  have ms42 := hts (.static arraycopyName) (by decide +kernel)
  have mi42 := hts (.initialized "java/lang/System") (by decide +kernel)
  refine kb_gen (fun Q hQ => ?_)
  unfold m_X4_loadFrom at hm
  refine lv_iload_n hx hb dX4_loadFrom_0 rfl (lv_at hl 2 rfl) ?_
  refine lv_bipush (v := (12 : Int32)) hx hb dX4_loadFrom_1 (by decide) ?_
  refine lv_imul hx hb dX4_loadFrom_3 ?_
  refine lv_topi (fun x1 ex1 => ?_)
  replace hm := nm_t ex1 hm
  refine lv_istore_n (lv' := [(3, .int x1), (0, .ref a_th), (1, .ref a_p1), (2, .int p_2)]) hx hb dX4_loadFrom_4 rfl hl (by decide) rfl (fun ls hl => ?_)
  refine lv_iload_n hx hb dX4_loadFrom_5 rfl (lv_at hl 0 rfl) ?_
  refine lv_if_lt (tgt := 18) hx hb dX4_loadFrom_6 (by decide) (fun c2 => ?_) (fun c2 => ?_)
  · replace hm := ite_t c2 hm
    obtain rfl := Option.some.inj hm
    subst hQ
    exact W.vret hx hb hr (fun t ht hW => ⟨⟨(), rfl, trivial, kb_h hP ht⟩, hS.F ht⟩) hS.2.2 dX4_loadFrom_18
  · replace hm := ite_f c2 hm
    refine lv_iload_n hx hb dX4_loadFrom_9 rfl (lv_at hl 0 rfl) ?_
    refine lv_bipush (v := (12 : Int32)) hx hb dX4_loadFrom_10 (by decide) ?_
    refine lv_iadd hx hb dX4_loadFrom_12 ?_
    refine lv_aload_n hx hb dX4_loadFrom_13 rfl (lv_at hl 2 rfl) ?_
    refine va_alen (v := (Int32.ofNat n_p1)) hx hb hK hP 1 0 rfl rfl rfl dX4_loadFrom_14 ?_
    refine lv_icmp_le (tgt := 19) hx hb dX4_loadFrom_15 (by decide) (fun c3 => ?_) (fun c3 => ?_)
    · replace hm := ite_t c3 hm
      refine lv_aload_n hx hb dX4_loadFrom_19 rfl (lv_at hl 1 rfl) ?_
      refine lv_aload_n hx hb dX4_loadFrom_20 rfl (lv_at hl 2 rfl) ?_
      refine lv_iload_n hx hb dX4_loadFrom_21 rfl (lv_at hl 0 rfl) ?_
      obtain ⟨h4, hm⟩ := gd_s hm
      refine va_iald hx hb hK hP 1 0 rfl rfl (inB_s h4) dX4_loadFrom_22 ?_
      refine lv_topi (fun x5 ex5 => ?_)
      replace hm := nm_t ex5 hm
      refine va_put (D := (dC, dI)) (ci := 4) (v := .int x5) (ty := .int) (C := RX4) (T := TX4) (N := 6) hx hb hts iX4 tyX4 tyX4_ok nmX4 hown hK hP (kb_D hD rfl) hS 0 rfl rfl 0 (by decide) f15 (fun _ h9 => h9) rfl (by decide +kernel) rfl rfl (Nat.le_of_ble_eq_true rfl) dX4_loadFrom_23 (fun H locs hP _ hS => ?_)
      have hP : va_P (dC, dI) vwCl [oX4 a_th (.int x5) (.int v_trueDay) (.int v_wasAsked) (.int v_clothState) (.int v_cracks) (.ref a_known), aI cI a_p1 n_p1 v_p1, aI cI a_known 7 v_known] H := hP
      refine lv_aload_n hx hb dX4_loadFrom_26 rfl (lv_at hl 1 rfl) ?_
      refine lv_aload_n hx hb dX4_loadFrom_27 rfl (lv_at hl 2 rfl) ?_
      refine lv_iload_n hx hb dX4_loadFrom_28 rfl (lv_at hl 0 rfl) ?_
      refine lv_iconst (v := (1 : Int32)) hx hb dX4_loadFrom_29 (by decide) ?_
      refine lv_iadd hx hb dX4_loadFrom_30 ?_
      obtain ⟨h6, hm⟩ := gd_s hm
      refine va_iald hx hb hK hP 1 0 rfl rfl (inB_s h6) dX4_loadFrom_31 ?_
      refine lv_topi (fun x7 ex7 => ?_)
      replace hm := nm_t ex7 hm
      refine va_put (D := (dC, dI)) (ci := 4) (v := .int x7) (ty := .int) (C := RX4) (T := TX4) (N := 6) hx hb hts iX4 tyX4 tyX4_ok nmX4 hown hK hP (kb_D hD rfl) hS 0 rfl rfl 1 (by decide) f19 (fun _ h9 => h9) rfl (by decide +kernel) rfl rfl (Nat.le_of_ble_eq_true rfl) dX4_loadFrom_32 (fun H locs hP _ hS => ?_)
      have hP : va_P (dC, dI) vwCl [oX4 a_th (.int x5) (.int x7) (.int v_wasAsked) (.int v_clothState) (.int v_cracks) (.ref a_known), aI cI a_p1 n_p1 v_p1, aI cI a_known 7 v_known] H := hP
      refine lv_aload_n hx hb dX4_loadFrom_35 rfl (lv_at hl 1 rfl) ?_
      refine lv_aload_n hx hb dX4_loadFrom_36 rfl (lv_at hl 2 rfl) ?_
      refine lv_iload_n hx hb dX4_loadFrom_37 rfl (lv_at hl 0 rfl) ?_
      refine lv_iconst (v := (2 : Int32)) hx hb dX4_loadFrom_38 (by decide) ?_
      refine lv_iadd hx hb dX4_loadFrom_39 ?_
      obtain ⟨h8, hm⟩ := gd_s hm
      refine va_iald hx hb hK hP 1 0 rfl rfl (inB_s h8) dX4_loadFrom_40 ?_
      refine lv_iconst (v := (1 : Int32)) hx hb dX4_loadFrom_41 (by decide) ?_
      obtain ⟨k50, ek50, hm⟩ := nm_s hm
      have J50 : ∀ (x9 : Int32) (H : Heap) (locs : List Loc) (ls : Array Slot), k50 x9 = some o → va_P (dC, dI) vwCl [oX4 a_th (.int x5) (.int x7) (.int v_wasAsked) (.int v_clothState) (.int v_cracks) (.ref a_known), aI cI a_p1 n_p1 v_p1, aI cI a_known 7 v_known] H → va_S A s.heap H locs → lv_has ls 4 [(0, .ref a_th), (1, .ref a_p1), (3, .int x1)] → W p l e (headSpec wsX4_loadFrom { frames := 1, cells := 0, slots := 0, locals := 100 }).room s m [.ref a_th, .ref a_p1, .int p_2].toArray below meth c H locs 0 0 Q (F0 m 50 ls [.int x9, .ref a_th]) := by
        intro x9 H locs ls hm hP hS hl
        rw [ek50] at hm
        obtain ⟨h10, hm⟩ := gd_s hm
        refine va_put (D := (dC, dI)) (ci := 4) (v := .int x9) (ty := .boolean) (C := RX4) (T := TX4) (N := 6) hx hb hts iX4 tyX4 tyX4_ok nmX4 hown hK hP (kb_D hD rfl) hS 0 rfl rfl 2 (by decide) f22 (fun _ h9 => h9) rfl (by decide +kernel) (zB_n h10) (zB_f h10) (Nat.le_of_ble_eq_true rfl) dX4_loadFrom_50 (fun H locs hP _ hS => ?_)
        have hP : va_P (dC, dI) vwCl [oX4 a_th (.int x5) (.int x7) (.int x9) (.int v_clothState) (.int v_cracks) (.ref a_known), aI cI a_p1 n_p1 v_p1, aI cI a_known 7 v_known] H := hP
        refine lv_aload_n hx hb dX4_loadFrom_53 rfl (lv_at hl 0 rfl) ?_
        refine lv_aload_n hx hb dX4_loadFrom_54 rfl (lv_at hl 1 rfl) ?_
        refine lv_iload_n hx hb dX4_loadFrom_55 rfl (lv_at hl 2 rfl) ?_
        refine lv_iconst (v := (3 : Int32)) hx hb dX4_loadFrom_56 (by decide) ?_
        refine lv_iadd hx hb dX4_loadFrom_57 ?_
        obtain ⟨h11, hm⟩ := gd_s hm
        refine va_iald hx hb hK hP 1 0 rfl rfl (inB_s h11) dX4_loadFrom_58 ?_
        refine lv_topi (fun x12 ex12 => ?_)
        replace hm := nm_t ex12 hm
        refine va_put (D := (dC, dI)) (ci := 4) (v := .int x12) (ty := .int) (C := RX4) (T := TX4) (N := 6) hx hb hts iX4 tyX4 tyX4_ok nmX4 hown hK hP (kb_D hD rfl) hS 0 rfl rfl 3 (by decide) f26 (fun _ h9 => h9) rfl (by decide +kernel) rfl rfl (Nat.le_of_ble_eq_true rfl) dX4_loadFrom_59 (fun H locs hP _ hS => ?_)
        have hP : va_P (dC, dI) vwCl [oX4 a_th (.int x5) (.int x7) (.int x9) (.int x12) (.int v_cracks) (.ref a_known), aI cI a_p1 n_p1 v_p1, aI cI a_known 7 v_known] H := hP
        refine lv_aload_n hx hb dX4_loadFrom_62 rfl (lv_at hl 0 rfl) ?_
        refine lv_aload_n hx hb dX4_loadFrom_63 rfl (lv_at hl 1 rfl) ?_
        refine lv_iload_n hx hb dX4_loadFrom_64 rfl (lv_at hl 2 rfl) ?_
        refine lv_iconst (v := (4 : Int32)) hx hb dX4_loadFrom_65 (by decide) ?_
        refine lv_iadd hx hb dX4_loadFrom_66 ?_
        obtain ⟨h13, hm⟩ := gd_s hm
        refine va_iald hx hb hK hP 1 0 rfl rfl (inB_s h13) dX4_loadFrom_67 ?_
        refine lv_topi (fun x14 ex14 => ?_)
        replace hm := nm_t ex14 hm
        refine va_put (D := (dC, dI)) (ci := 4) (v := .int x14) (ty := .int) (C := RX4) (T := TX4) (N := 6) hx hb hts iX4 tyX4 tyX4_ok nmX4 hown hK hP (kb_D hD rfl) hS 0 rfl rfl 4 (by decide) f29 (fun _ h9 => h9) rfl (by decide +kernel) rfl rfl (Nat.le_of_ble_eq_true rfl) dX4_loadFrom_68 (fun H locs hP _ hS => ?_)
        have hP : va_P (dC, dI) vwCl [oX4 a_th (.int x5) (.int x7) (.int x9) (.int x12) (.int x14) (.ref a_known), aI cI a_p1 n_p1 v_p1, aI cI a_known 7 v_known] H := hP
        refine lv_aload_n hx hb dX4_loadFrom_71 rfl (lv_at hl 1 rfl) ?_
        refine lv_iload_n hx hb dX4_loadFrom_72 rfl (lv_at hl 2 rfl) ?_
        refine lv_iconst (v := (5 : Int32)) hx hb dX4_loadFrom_73 (by decide) ?_
        refine lv_iadd hx hb dX4_loadFrom_74 ?_
        refine lv_aload_n hx hb dX4_loadFrom_75 rfl (lv_at hl 0 rfl) ?_
        refine va_get (D := (dC, dI)) (ci := 4) (v := .ref a_known) (C := RX4) (T := TX4) (N := 6) hx hb hts iX4 hown hK hP 0 rfl rfl 5 (by decide) f9 (fun _ h9 => h9) rfl dX4_loadFrom_76 ?_
        refine lv_iconst (v := (0 : Int32)) hx hb dX4_loadFrom_79 (by decide) ?_
        refine lv_bipush (v := (7 : Int32)) hx hb dX4_loadFrom_80 (by decide) ?_
        obtain ⟨h15, hm⟩ := gd_s hm
        obtain ⟨hc1, hc2, hc3, hc4, hc5⟩ := cpB_s h15
        refine va_copyi (ty := .int) hx hb (by rw [hml]; exact hl.1.symm) hown ml42 mn42 ms42 mi42 hK hP (kb_D hD rfl) hS 1 2 0 0 rfl rfl rfl rfl rfl hc1 hc2 hc3 hc4 hc5 (fun _ _ => rfl) (Nat.le_of_ble_eq_true rfl) (Nat.le_of_ble_eq_true rfl) dX4_loadFrom_82 (fun H locs hP _ hS => ?_)
        have hP : va_P (dC, dI) vwCl [oX4 a_th (.int x5) (.int x7) (.int x9) (.int x12) (.int x14) (.ref a_known), aI cI a_p1 n_p1 v_p1, aI cI a_known 7 (va_cpy v_p1 v_known (Int32.toNatClampNeg (x1 + (5 : Int32))) (Int32.toNatClampNeg (0 : Int32)) (Int32.toNatClampNeg (7 : Int32)))] H := hP
        obtain rfl := Option.some.inj hm
        subst hQ
        exact W.vret hx hb hr (fun t ht hW => ⟨⟨(), rfl, trivial, kb_h hP ht⟩, hS.F ht⟩) hS.2.2 dX4_loadFrom_85
      refine lv_icmp_ne (tgt := 49) hx hb dX4_loadFrom_42 (by decide) (fun c16 => ?_) (fun c16 => ?_)
      · replace hm := ite_f c16 hm
        refine lv_iconst (v := (0 : Int32)) hx hb dX4_loadFrom_49 (by decide) ?_
        exact J50 (0 : Int32) _ _ _ hm hP hS (lv_sub hl [1, 2, 0] rfl)
      · replace hm := ite_t c16 hm
        refine lv_iconst (v := (1 : Int32)) hx hb dX4_loadFrom_45 (by decide) ?_
        refine lv_goto (tgt := 50) hx hb dX4_loadFrom_46 (by decide) ?_
        exact J50 (1 : Int32) _ _ _ hm hP hS (lv_sub hl [1, 2, 0] rfl)
    · replace hm := ite_f c3 hm
      obtain rfl := Option.some.inj hm
      subst hQ
      exact W.vret hx hb hr (fun t ht hW => ⟨⟨(), rfl, trivial, kb_h hP ht⟩, hS.F ht⟩) hS.2.2 dX4_loadFrom_18
set_option maxHeartbeats 4000000 in
set_option maxRecDepth 100000 in
theorem c_X0_takeBack (l : Launch) (dC : Nat → ClassId) (dI : Nat → Nat → Nat) (cI cJ cZ cQ : ClassId) (t sz : Nat) (a_th : Nat) (a_p1 : Nat) (a_moments : Nat) (a_p1_known : Nat) (a_seeds : Nat) (v_next : Int32) (v_count : Int32) (v_p1_date : Int32) (v_p1_trueDay : Int32) (v_p1_wasAsked : Int32) (v_p1_clothState : Int32) (v_p1_cracks : Int32) (v_moments : (Nat → Int32)) (v_p1_known : (Nat → Int32)) (v_seeds : (Nat → Int64)) (p_2 : Int64) (o : Int64 × Int32 × Int32 × Int32 × Int32 × Int32 × Int32 × Int32 × (Nat → Int32)) (hm : m_X0_takeBack p_2 v_next v_count v_p1_date v_p1_trueDay v_p1_wasAsked v_p1_clothState v_p1_cracks v_moments v_p1_known v_seeds = some o) : Met l yX0_takeBack wsX0_takeBack { frames := 2, cells := 0, slots := 0, locals := 123 } (va_Pc [.ref a_th, .ref a_p1, .long p_2] (cP (dC, dI) (kT cI cJ cZ cQ) t sz [oX0 a_th (.ref a_moments) (.ref a_seeds) (.int v_next) (.int v_count), oX4 a_p1 (.int v_p1_date) (.int v_p1_trueDay) (.int v_p1_wasAsked) (.int v_p1_clothState) (.int v_p1_cracks) (.ref a_p1_known), aI cI a_moments 120 v_moments, aI cI a_p1_known 7 v_p1_known, aJ cJ a_seeds 10 v_seeds])) (cQl (dC, dI) (va_A [oX0 a_th (.ref a_moments) (.ref a_seeds) (.int v_next) (.int v_count), oX4 a_p1 (.int v_p1_date) (.int v_p1_trueDay) (.int v_p1_wasAsked) (.int v_p1_clothState) (.int v_p1_cracks) (.ref a_p1_known), aI cI a_moments 120 v_moments, aI cI a_p1_known 7 v_p1_known, aJ cJ a_seeds 10 v_seeds] sz) o.1 [oX0 a_th (.ref a_moments) (.ref a_seeds) (.int (o.2.1)) (.int (o.2.2.1)), oX4 a_p1 (.int (o.2.2.2.1)) (.int (o.2.2.2.2.1)) (.int (o.2.2.2.2.2.1)) (.int (o.2.2.2.2.2.2.1)) (.int (o.2.2.2.2.2.2.2.1)) (.ref a_p1_known), aI cI a_moments 120 v_moments, aI cI a_p1_known 7 (o.2.2.2.2.2.2.2.2), aJ cJ a_seeds 10 v_seeds]) 0 0 (va_A [oX0 a_th (.ref a_moments) (.ref a_seeds) (.int v_next) (.int v_count), oX4 a_p1 (.int v_p1_date) (.int v_p1_trueDay) (.int v_p1_wasAsked) (.int v_p1_clothState) (.int v_p1_cracks) (.ref a_p1_known), aI cI a_moments 120 v_moments, aI cI a_p1_known 7 v_p1_known, aJ cJ a_seeds 10 v_seeds] sz) := by
  refine Met.ofW (cc := cX0_takeBack) (maxL := 4) (ret := (some .long)) (by decide) rfl ?_
  intro p e s m args below meth c s₁ B hml hv
  obtain ⟨rfl, hsz, hP, hK, hD0, hG⟩ := hv
  have hx := B.exec
  have hb := B.bytes
  have hr := B.returns
  have hts := atoms_spec (ws := wsX0_takeBack) B.pre
  have hown : s.vm.findClass RX0 = some m.cls := findClass_of_methodNamed B.named
  have hlocks := B.notSynchronized
  subst hsz
  have hD := hD0.self (sz := s.heap.size)
  generalize hAe : va_A [oX0 a_th (.ref a_moments) (.ref a_seeds) (.int v_next) (.int v_count), oX4 a_p1 (.int v_p1_date) (.int v_p1_trueDay) (.int v_p1_wasAsked) (.int v_p1_clothState) (.int v_p1_cracks) (.ref a_p1_known), aI cI a_moments 120 v_moments, aI cI a_p1_known 7 v_p1_known, aJ cJ a_seeds 10 v_seeds] s.heap.size = A at hD hG ⊢
  have hA : ∀ q : Nat, s.heap.size ≤ q → A q := fun q h => by rw [← hAe]; exact Or.inr h
  have hS : va_S A s.heap s.heap [] := va_S.rf
  have hl := lv_entry ([.ref a_th, .ref a_p1, .long p_2]) (n := 4) (Nat.le_of_ble_eq_true rfl)
  rw [lg_entry_eq]
  generalize (lg_sl ([.ref a_th, .ref a_p1, .long p_2]) ++ List.replicate (4 - (lg_sl ([.ref a_th, .ref a_p1, .long p_2])).length) Slot.unset).toArray = ls at hl ⊢
  have hl : lv_has ls 4 [(0, .ref a_th), (1, .ref a_p1), (2, .long p_2)] := hl
  have iX0 : ∀ w ∈ wsX00, w ∈ wsX0_takeBack := fun _ h => List.mem_cons_of_mem _ (List.mem_append_left _ (List.mem_append_right _ h))
  have iX4 : ∀ w ∈ wsX40, w ∈ wsX0_takeBack := fun _ h => List.mem_cons_of_mem _ (List.mem_append_right _ h)
  have f29 := hts (.fieldLink RX0 29 "TrueOnceWeek$Acts" "count" "I") (by decide +kernel)
  have f21 := hts (.fieldLink RX0 21 "TrueOnceWeek$Acts" "next" "I") (by decide +kernel)
  have f11 := hts (.fieldLink RX0 11 "TrueOnceWeek$Acts" "moments" "[I") (by decide +kernel)
  have f17 := hts (.fieldLink RX0 17 "TrueOnceWeek$Acts" "seeds" "[J") (by decide +kernel)
  refine kb_gen (fun Q hQ => ?_)
  unfold m_X0_takeBack at hm
  refine lv_aload_n hx hb dX0_takeBack_0 rfl (lv_at hl 0 rfl) ?_
  refine va_get (D := (dC, dI)) (ci := 0) (v := .int v_count) (C := RX0) (T := TX0) (N := 4) hx hb hts iX0 hown hK hP 0 rfl rfl 3 (by decide) f29 (fun _ h9 => h9) rfl dX0_takeBack_1 ?_
  refine lv_if_ne (tgt := 9) hx hb dX0_takeBack_4 (by decide) (fun c1 => ?_) (fun c1 => ?_)
  · replace hm := ite_f c1 hm
    refine lv_aload_n hx hb dX0_takeBack_9 rfl (lv_at hl 0 rfl) ?_
    refine lv_aload_n hx hb dX0_takeBack_10 rfl (lv_at hl 0 rfl) ?_
    refine va_get (D := (dC, dI)) (ci := 0) (v := .int v_next) (C := RX0) (T := TX0) (N := 4) hx hb hts iX0 hown hK hP 0 rfl rfl 2 (by decide) f21 (fun _ h9 => h9) rfl dX0_takeBack_11 ?_
    refine lv_bipush (v := (10 : Int32)) hx hb dX0_takeBack_14 (by decide) ?_
    refine lv_iadd hx hb dX0_takeBack_16 ?_
    refine lv_iconst (v := (1 : Int32)) hx hb dX0_takeBack_17 (by decide) ?_
    refine lv_isub hx hb dX0_takeBack_18 ?_
    refine lv_bipush (v := (10 : Int32)) hx hb dX0_takeBack_19 (by decide) ?_
    refine lv_irem hx hb dX0_takeBack_21 (by decide) ?_
    refine lv_topi (fun x2 ex2 => ?_)
    replace hm := nm_t ex2 hm
    refine va_put (D := (dC, dI)) (ci := 0) (v := .int x2) (ty := .int) (C := RX0) (T := TX0) (N := 4) hx hb hts iX0 tyX0 tyX0_ok nmX0 hown hK hP (kb_D hD rfl) hS 0 rfl rfl 2 (by decide) f21 (fun _ h9 => h9) rfl (by decide +kernel) rfl rfl (Nat.le_of_ble_eq_true rfl) dX0_takeBack_22 (fun H locs hP _ hS => ?_)
    have hP : va_P (dC, dI) vwCl [oX0 a_th (.ref a_moments) (.ref a_seeds) (.int x2) (.int v_count), oX4 a_p1 (.int v_p1_date) (.int v_p1_trueDay) (.int v_p1_wasAsked) (.int v_p1_clothState) (.int v_p1_cracks) (.ref a_p1_known), aI cI a_moments 120 v_moments, aI cI a_p1_known 7 v_p1_known, aJ cJ a_seeds 10 v_seeds] H := hP
    refine lv_aload_n hx hb dX0_takeBack_25 rfl (lv_at hl 0 rfl) ?_
    refine lv_dup hx hb dX0_takeBack_26 rfl ?_
    refine va_get (D := (dC, dI)) (ci := 0) (v := .int v_count) (C := RX0) (T := TX0) (N := 4) hx hb hts iX0 hown hK hP 0 rfl rfl 3 (by decide) f29 (fun _ h9 => h9) rfl dX0_takeBack_27 ?_
    refine lv_iconst (v := (1 : Int32)) hx hb dX0_takeBack_30 (by decide) ?_
    refine lv_isub hx hb dX0_takeBack_31 ?_
    refine lv_topi (fun x3 ex3 => ?_)
    replace hm := nm_t ex3 hm
    refine va_put (D := (dC, dI)) (ci := 0) (v := .int x3) (ty := .int) (C := RX0) (T := TX0) (N := 4) hx hb hts iX0 tyX0 tyX0_ok nmX0 hown hK hP (kb_D hD rfl) hS 0 rfl rfl 3 (by decide) f29 (fun _ h9 => h9) rfl (by decide +kernel) rfl rfl (Nat.le_of_ble_eq_true rfl) dX0_takeBack_32 (fun H locs hP _ hS => ?_)
    have hP : va_P (dC, dI) vwCl [oX0 a_th (.ref a_moments) (.ref a_seeds) (.int x2) (.int x3), oX4 a_p1 (.int v_p1_date) (.int v_p1_trueDay) (.int v_p1_wasAsked) (.int v_p1_clothState) (.int v_p1_cracks) (.ref a_p1_known), aI cI a_moments 120 v_moments, aI cI a_p1_known 7 v_p1_known, aJ cJ a_seeds 10 v_seeds] H := hP
    refine lv_aload_n hx hb dX0_takeBack_35 rfl (lv_at hl 1 rfl) ?_
    refine lv_aload_n hx hb dX0_takeBack_36 rfl (lv_at hl 0 rfl) ?_
    refine va_get (D := (dC, dI)) (ci := 0) (v := .ref a_moments) (C := RX0) (T := TX0) (N := 4) hx hb hts iX0 hown hK hP 0 rfl rfl 0 (by decide) f11 (fun _ h9 => h9) rfl dX0_takeBack_37 ?_
    refine lv_aload_n hx hb dX0_takeBack_40 rfl (lv_at hl 0 rfl) ?_
    refine va_get (D := (dC, dI)) (ci := 0) (v := .int x2) (C := RX0) (T := TX0) (N := 4) hx hb hts iX0 hown hK hP 0 rfl rfl 2 (by decide) f21 (fun _ h9 => h9) rfl dX0_takeBack_41 ?_
    obtain ⟨w4, w5, w6, w7, w8, w9, ho10, hm⟩ := bd6_s hm
    refine kb_callv (va_runV (As := [.ref a_moments, .int x2]) (rest := []) ⟨hx, hb, hml, hown, hts⟩ (c_X4_loadFrom l dC dI cI cJ cZ cQ t H.size a_p1 a_moments a_p1_known 120 v_p1_date v_p1_trueDay v_p1_wasAsked v_p1_clothState v_p1_cracks v_moments v_p1_known x2 (w4, w5, w6, w7, w8, w9) ho10) (cwV 2 hts gX0_takeBack_X4_loadFrom rfl rfl rfl (by decide +kernel) ⟨(Nat.le_of_ble_eq_true rfl), (Nat.le_of_ble_eq_true rfl)⟩) ⟨(kb_pre hK hG hP (kb_D hD rfl) hS hA [1, 2, 3] rfl (by decide)).1, (va_recv hK hP (ci := 4) (q0 := 1) rfl rfl), (kb_pre hK hG hP (kb_D hD rfl) hS hA [1, 2, 3] rfl (by decide)).2⟩ rfl rfl hl.1 rfl (lv_room (Nat.le_of_ble_eq_true rfl)) dX0_takeBack_44 ⟨Nat.zero_le _, Nat.zero_le _⟩) hP (kb_D hD rfl) hS hA [1, 2, 3] rfl [(false, 0), (true, 0), (true, 1), (true, 2), (false, 4)] (w2 := [oX0 a_th (.ref a_moments) (.ref a_seeds) (.int x2) (.int x3), oX4 a_p1 (.int w4) (.int w5) (.int w6) (.int w7) (.int w8) (.ref a_p1_known), aI cI a_moments 120 v_moments, aI cI a_p1_known 7 w9, aJ cJ a_seeds 10 v_seeds]) rfl (by decide) (fun H locs hP hS => ?_)
    refine lv_aload_n hx hb dX0_takeBack_47 rfl (lv_at hl 0 rfl) ?_
    refine va_get (D := (dC, dI)) (ci := 0) (v := .ref a_seeds) (C := RX0) (T := TX0) (N := 4) hx hb hts iX0 hown hK hP 0 rfl rfl 1 (by decide) f17 (fun _ h9 => h9) rfl dX0_takeBack_48 ?_
    refine lv_aload_n hx hb dX0_takeBack_51 rfl (lv_at hl 0 rfl) ?_
    refine va_get (D := (dC, dI)) (ci := 0) (v := .int x2) (C := RX0) (T := TX0) (N := 4) hx hb hts iX0 hown hK hP 0 rfl rfl 2 (by decide) f21 (fun _ h9 => h9) rfl dX0_takeBack_52 ?_
    obtain ⟨h11, hm⟩ := gd_s hm
    refine va_lald hx hb hK hP 4 1 rfl rfl (inB_s h11) dX0_takeBack_55 ?_
    obtain rfl := Option.some.inj hm
    subst hQ
    exact W.lret hx hb hr (fun t ht hW => ⟨⟨_, (), rfl, rfl, kb_h hP ht⟩, hS.F ht⟩) hS.2.2 dX0_takeBack_56
  · replace hm := ite_t c1 hm
    refine lv_lload_n hx hb dX0_takeBack_7 rfl (lv_at hl 2 rfl) ?_
    obtain rfl := Option.some.inj hm
    subst hQ
    exact W.lret hx hb hr (fun t ht hW => ⟨⟨_, (), rfl, rfl, kb_h hP ht⟩, hS.F ht⟩) hS.2.2 dX0_takeBack_8
set_option maxHeartbeats 4000000 in
set_option maxRecDepth 100000 in
theorem c_X9_undo (l : Launch) (dC : Nat → ClassId) (dI : Nat → Nat → Nat) (cI cJ cZ cQ : ClassId) (t sz : Nat) (a_th : Nat) (a_theActs : Nat) (a_now : Nat) (a_theActs_moments : Nat) (a_now_known : Nat) (a_theActs_seeds : Nat) (q_theText : Value) (q_theQuestion : Value) (q_theCastle : Value) (q_theTold : Value) (q_foresight : Value) (q_keptMoments : Value) (q_isKept : Value) (q_marchWorlds : Value) (v_theSeed : Int64) (v_theActs_next : Int32) (v_theActs_count : Int32) (v_now_date : Int32) (v_now_trueDay : Int32) (v_now_wasAsked : Int32) (v_now_clothState : Int32) (v_now_cracks : Int32) (v_theActs_moments : (Nat → Int32)) (v_now_known : (Nat → Int32)) (v_theActs_seeds : (Nat → Int64)) (o : Int32 × Int64 × Int32 × Int32 × Int32 × Int32 × Int32 × Int32 × Int32 × (Nat → Int32)) (hm : m_X9_undo v_theSeed v_theActs_next v_theActs_count v_now_date v_now_trueDay v_now_wasAsked v_now_clothState v_now_cracks v_theActs_moments v_now_known v_theActs_seeds = some o) : Met l yX9_undo wsX9_undo { frames := 3, cells := 0, slots := 0, locals := 146 } (va_Pc [.ref a_th] (cP (dC, dI) (kT cI cJ cZ cQ) t sz [oX9 a_th q_theText q_theQuestion q_theCastle (.ref a_now) (.ref a_theActs) q_theTold q_foresight q_keptMoments q_isKept q_marchWorlds (.long v_theSeed), oX0 a_theActs (.ref a_theActs_moments) (.ref a_theActs_seeds) (.int v_theActs_next) (.int v_theActs_count), oX4 a_now (.int v_now_date) (.int v_now_trueDay) (.int v_now_wasAsked) (.int v_now_clothState) (.int v_now_cracks) (.ref a_now_known), aI cI a_theActs_moments 120 v_theActs_moments, aI cI a_now_known 7 v_now_known, aJ cJ a_theActs_seeds 10 v_theActs_seeds])) (cQi (dC, dI) (va_A [oX9 a_th q_theText q_theQuestion q_theCastle (.ref a_now) (.ref a_theActs) q_theTold q_foresight q_keptMoments q_isKept q_marchWorlds (.long v_theSeed), oX0 a_theActs (.ref a_theActs_moments) (.ref a_theActs_seeds) (.int v_theActs_next) (.int v_theActs_count), oX4 a_now (.int v_now_date) (.int v_now_trueDay) (.int v_now_wasAsked) (.int v_now_clothState) (.int v_now_cracks) (.ref a_now_known), aI cI a_theActs_moments 120 v_theActs_moments, aI cI a_now_known 7 v_now_known, aJ cJ a_theActs_seeds 10 v_theActs_seeds] sz) o.1 [oX9 a_th q_theText q_theQuestion q_theCastle (.ref a_now) (.ref a_theActs) q_theTold q_foresight q_keptMoments q_isKept q_marchWorlds (.long (o.2.1)), oX0 a_theActs (.ref a_theActs_moments) (.ref a_theActs_seeds) (.int (o.2.2.1)) (.int (o.2.2.2.1)), oX4 a_now (.int (o.2.2.2.2.1)) (.int (o.2.2.2.2.2.1)) (.int (o.2.2.2.2.2.2.1)) (.int (o.2.2.2.2.2.2.2.1)) (.int (o.2.2.2.2.2.2.2.2.1)) (.ref a_now_known), aI cI a_theActs_moments 120 v_theActs_moments, aI cI a_now_known 7 (o.2.2.2.2.2.2.2.2.2), aJ cJ a_theActs_seeds 10 v_theActs_seeds]) 0 0 (va_A [oX9 a_th q_theText q_theQuestion q_theCastle (.ref a_now) (.ref a_theActs) q_theTold q_foresight q_keptMoments q_isKept q_marchWorlds (.long v_theSeed), oX0 a_theActs (.ref a_theActs_moments) (.ref a_theActs_seeds) (.int v_theActs_next) (.int v_theActs_count), oX4 a_now (.int v_now_date) (.int v_now_trueDay) (.int v_now_wasAsked) (.int v_now_clothState) (.int v_now_cracks) (.ref a_now_known), aI cI a_theActs_moments 120 v_theActs_moments, aI cI a_now_known 7 v_now_known, aJ cJ a_theActs_seeds 10 v_theActs_seeds] sz) := by
  refine Met.ofW (cc := cX9_undo) (maxL := 1) (ret := (some .int)) (by decide) rfl ?_
  intro p e s m args below meth c s₁ B hml hv
  obtain ⟨rfl, hsz, hP, hK, hD0, hG⟩ := hv
  have hx := B.exec
  have hb := B.bytes
  have hr := B.returns
  have hts := atoms_spec (ws := wsX9_undo) B.pre
  have hown : s.vm.findClass RX9 = some m.cls := findClass_of_methodNamed B.named
  have hlocks := B.notSynchronized
  subst hsz
  have hD := hD0.self (sz := s.heap.size)
  generalize hAe : va_A [oX9 a_th q_theText q_theQuestion q_theCastle (.ref a_now) (.ref a_theActs) q_theTold q_foresight q_keptMoments q_isKept q_marchWorlds (.long v_theSeed), oX0 a_theActs (.ref a_theActs_moments) (.ref a_theActs_seeds) (.int v_theActs_next) (.int v_theActs_count), oX4 a_now (.int v_now_date) (.int v_now_trueDay) (.int v_now_wasAsked) (.int v_now_clothState) (.int v_now_cracks) (.ref a_now_known), aI cI a_theActs_moments 120 v_theActs_moments, aI cI a_now_known 7 v_now_known, aJ cJ a_theActs_seeds 10 v_theActs_seeds] s.heap.size = A at hD hG ⊢
  have hA : ∀ q : Nat, s.heap.size ≤ q → A q := fun q h => by rw [← hAe]; exact Or.inr h
  have hS : va_S A s.heap s.heap [] := va_S.rf
  have hl := lv_entry ([.ref a_th]) (n := 1) (Nat.le_of_ble_eq_true rfl)
  rw [lg_entry_eq]
  generalize (lg_sl ([.ref a_th]) ++ List.replicate (1 - (lg_sl ([.ref a_th])).length) Slot.unset).toArray = ls at hl ⊢
  have hl : lv_has ls 1 [(0, .ref a_th)] := hl
  have iX9 : ∀ w ∈ wsX90, w ∈ wsX9_undo := fun _ h => List.mem_cons_of_mem _ (List.mem_append_left _ (List.mem_append_left _ (List.mem_append_right _ h)))
  have iX0 : ∀ w ∈ wsX00, w ∈ wsX9_undo := fun _ h => List.mem_cons_of_mem _ (List.mem_append_left _ (List.mem_append_right _ h))
  have iX4 : ∀ w ∈ wsX40, w ∈ wsX9_undo := fun _ h => List.mem_cons_of_mem _ (List.mem_append_right _ h)
  have f42 := hts (.fieldLink RX9 42 "TrueOnceWeek" "theActs" "LTrueOnceWeek$Acts;") (by decide +kernel)
  have f132 := va_Nw.use (A := [.ref a_th].toArray) (w := .fieldLinkNest RX9 132 "TrueOnceWeek$Acts" "count" "I" "TrueOnceWeek") rfl (hG.1 (RX9, 132, "TrueOnceWeek$Acts", "count", "I") (by decide +kernel))
  have f35 := hts (.fieldLink RX9 35 "TrueOnceWeek" "now" "LTrueOnceWeek$Moment;") (by decide +kernel)
  have f174 := hts (.fieldLink RX9 174 "TrueOnceWeek" "theSeed" "J") (by decide +kernel)
  refine kb_gen (fun Q hQ => ?_)
  unfold m_X9_undo at hm
  refine lv_aload_n hx hb dX9_undo_0 rfl (lv_at hl 0 rfl) ?_
  refine va_get (D := (dC, dI)) (ci := 7) (v := .ref a_theActs) (C := RX9) (T := TX9) (N := 11) hx hb hts iX9 hown hK hP 0 rfl rfl 4 (by decide) f42 (fun _ h9 => h9) rfl dX9_undo_1 ?_
  refine va_getN (D := (dC, dI)) (ci := 0) (v := .int v_theActs_count) (C := RX0) (T := TX0) (N := 4) hx hb hts iX0 hown hK hP 1 rfl rfl 3 (by decide) f132 (fun _ h9 => h9) rfl dX9_undo_4 ?_
  refine lv_if_ne (tgt := 13) hx hb dX9_undo_7 (by decide) (fun c1 => ?_) (fun c1 => ?_)
  · replace hm := ite_f c1 hm
    refine lv_aload_n hx hb dX9_undo_13 rfl (lv_at hl 0 rfl) ?_
    refine lv_aload_n hx hb dX9_undo_14 rfl (lv_at hl 0 rfl) ?_
    refine va_get (D := (dC, dI)) (ci := 7) (v := .ref a_theActs) (C := RX9) (T := TX9) (N := 11) hx hb hts iX9 hown hK hP 0 rfl rfl 4 (by decide) f42 (fun _ h9 => h9) rfl dX9_undo_15 ?_
    refine lv_aload_n hx hb dX9_undo_18 rfl (lv_at hl 0 rfl) ?_
    refine va_get (D := (dC, dI)) (ci := 7) (v := .ref a_now) (C := RX9) (T := TX9) (N := 11) hx hb hts iX9 hown hK hP 0 rfl rfl 3 (by decide) f35 (fun _ h9 => h9) rfl dX9_undo_19 ?_
    refine lv_aload_n hx hb dX9_undo_22 rfl (lv_at hl 0 rfl) ?_
    refine va_get (D := (dC, dI)) (ci := 7) (v := .long v_theSeed) (C := RX9) (T := TX9) (N := 11) hx hb hts iX9 hown hK hP 0 rfl rfl 10 (by decide) f174 (fun _ h9 => h9) rfl dX9_undo_23 ?_
    obtain ⟨r2, w3, w4, w5, w6, w7, w8, w9, w10, ho11, hm⟩ := bd9_s hm
    refine kb_calll (Rv := r2) (va_runV (As := [.ref a_now, .long v_theSeed]) (rest := [.ref a_th]) ⟨hx, hb, hml, hown, hts⟩ (c_X0_takeBack l dC dI cI cJ cZ cQ t s.heap.size a_theActs a_now a_theActs_moments a_now_known a_theActs_seeds v_theActs_next v_theActs_count v_now_date v_now_trueDay v_now_wasAsked v_now_clothState v_now_cracks v_theActs_moments v_now_known v_theActs_seeds v_theSeed (r2, w3, w4, w5, w6, w7, w8, w9, w10) ho11) (cwV 2 hts gX9_undo_X0_takeBack rfl rfl rfl (by decide +kernel) ⟨(Nat.le_of_ble_eq_true rfl), (Nat.le_of_ble_eq_true rfl)⟩) ⟨(kb_pre hK hG hP (kb_D hD rfl) hS hA [1, 2, 3, 4, 5] rfl (by decide)).1, (va_recv hK hP (ci := 0) (q0 := 1) rfl rfl), (kb_pre hK hG hP (kb_D hD rfl) hS hA [1, 2, 3, 4, 5] rfl (by decide)).2⟩ rfl rfl hl.1 rfl (lv_room (Nat.le_of_ble_eq_true rfl)) dX9_undo_26 ⟨Nat.zero_le _, Nat.zero_le _⟩) hP (kb_D hD rfl) hS hA [1, 2, 3, 4, 5] rfl [(false, 0), (true, 0), (true, 1), (true, 2), (true, 3), (true, 4)] (w2 := [oX9 a_th q_theText q_theQuestion q_theCastle (.ref a_now) (.ref a_theActs) q_theTold q_foresight q_keptMoments q_isKept q_marchWorlds (.long v_theSeed), oX0 a_theActs (.ref a_theActs_moments) (.ref a_theActs_seeds) (.int w3) (.int w4), oX4 a_now (.int w5) (.int w6) (.int w7) (.int w8) (.int w9) (.ref a_now_known), aI cI a_theActs_moments 120 v_theActs_moments, aI cI a_now_known 7 w10, aJ cJ a_theActs_seeds 10 v_theActs_seeds]) rfl (by decide) (fun H locs hP hS => ?_)
    refine va_put (D := (dC, dI)) (ci := 7) (v := .long r2) (ty := .long) (C := RX9) (T := TX9) (N := 11) hx hb hts iX9 tyX9 tyX9_ok nmX9 hown hK hP (kb_D hD rfl) hS 0 rfl rfl 10 (by decide) f174 (fun _ h9 => h9) rfl (by decide +kernel) rfl rfl (Nat.le_of_ble_eq_true rfl) dX9_undo_29 (fun H locs hP _ hS => ?_)
    have hP : va_P (dC, dI) vwCl [oX9 a_th q_theText q_theQuestion q_theCastle (.ref a_now) (.ref a_theActs) q_theTold q_foresight q_keptMoments q_isKept q_marchWorlds (.long r2), oX0 a_theActs (.ref a_theActs_moments) (.ref a_theActs_seeds) (.int w3) (.int w4), oX4 a_now (.int w5) (.int w6) (.int w7) (.int w8) (.int w9) (.ref a_now_known), aI cI a_theActs_moments 120 v_theActs_moments, aI cI a_now_known 7 w10, aJ cJ a_theActs_seeds 10 v_theActs_seeds] H := hP
    refine lv_aload_n hx hb dX9_undo_32 rfl (lv_at hl 0 rfl) ?_
    refine va_get (D := (dC, dI)) (ci := 7) (v := .ref a_theActs) (C := RX9) (T := TX9) (N := 11) hx hb hts iX9 hown hK hP 0 rfl rfl 4 (by decide) f42 (fun _ h9 => h9) rfl dX9_undo_33 ?_
    refine va_getN (D := (dC, dI)) (ci := 0) (v := .int w4) (C := RX0) (T := TX0) (N := 4) hx hb hts iX0 hown hK hP 1 rfl rfl 3 (by decide) f132 (fun _ h9 => h9) rfl dX9_undo_36 ?_
    obtain rfl := Option.some.inj hm
    subst hQ
    exact W.iret hx hb hr (fun t ht hW => ⟨⟨_, (), rfl, rfl, kb_h hP ht⟩, hS.F ht⟩) hS.2.2 dX9_undo_39
  · replace hm := ite_t c1 hm
    refine lv_bipush (v := (-3 : Int32)) hx hb dX9_undo_10 (by decide) ?_
    obtain rfl := Option.some.inj hm
    subst hQ
    exact W.iret hx hb hr (fun t ht hW => ⟨⟨_, (), rfl, rfl, kb_h hP ht⟩, hS.F ht⟩) hS.2.2 dX9_undo_12
set_option maxHeartbeats 4000000 in
set_option maxRecDepth 100000 in
theorem c_X9_isWeekday (l : Launch) (dC : Nat → ClassId) (dI : Nat → Nat → Nat) (cI cJ cZ cQ : ClassId) (t sz : Nat) (p_0 : Int32) (o : Int32) (hm : m_X9_isWeekday p_0 = some o) : Met l yX9_isWeekday wsX9_isWeekday { frames := 0, cells := 0, slots := 0, locals := 0 } (va_Pc [.int p_0] (cP (dC, dI) (kT cI cJ cZ cQ) t sz [])) (cQi (dC, dI) (va_A [] sz) o []) 0 0 (va_A [] sz) := by
  refine Met.ofW (cc := cX9_isWeekday) (maxL := 1) (ret := (some .boolean)) (by decide) rfl ?_
  intro p e s m args below meth c s₁ B hml hv
  obtain ⟨rfl, hsz, hP, hK, hD0, hG⟩ := hv
  have hx := B.exec
  have hb := B.bytes
  have hr := B.returns
  have hts := atoms_spec (ws := wsX9_isWeekday) B.pre
  have hown : s.vm.findClass RX9 = some m.cls := findClass_of_methodNamed B.named
  have hlocks := B.notSynchronized
  subst hsz
  have hD := hD0.self (sz := s.heap.size)
  generalize hAe : va_A [] s.heap.size = A at hD hG ⊢
  have hA : ∀ q : Nat, s.heap.size ≤ q → A q := fun q h => by rw [← hAe]; exact Or.inr h
  have hS : va_S A s.heap s.heap [] := va_S.rf
  have hl := lv_entry ([.int p_0]) (n := 1) (Nat.le_of_ble_eq_true rfl)
  rw [lg_entry_eq]
  generalize (lg_sl ([.int p_0]) ++ List.replicate (1 - (lg_sl ([.int p_0])).length) Slot.unset).toArray = ls at hl ⊢
  have hl : lv_has ls 1 [(0, .int p_0)] := hl
  refine kb_gen (fun Q hQ => ?_)
  unfold m_X9_isWeekday at hm
  refine lv_iload_n hx hb dX9_isWeekday_0 rfl (lv_at hl 0 rfl) ?_
  obtain ⟨k14, ek14, hm⟩ := nm_s hm
  have J14 : ∀ (H : Heap) (locs : List Loc) (ls : Array Slot), k14 = some o → va_P (dC, dI) vwCl [] H → va_S A s.heap H locs → lv_has ls 1 [] → W p l e (headSpec wsX9_isWeekday { frames := 0, cells := 0, slots := 0, locals := 0 }).room s m [.int p_0].toArray below meth c H locs 0 0 Q (F0 m 14 ls []) := by
    intro  H locs ls hm hP hS hl
    rw [ek14] at hm
    refine lv_iconst (v := (0 : Int32)) hx hb dX9_isWeekday_14 (by decide) ?_
    obtain rfl := Option.some.inj hm
    subst hQ
    exact W.zret hx hb hr rfl (fun t ht hW => ⟨⟨_, (), rfl, rfl, kb_h hP ht⟩, hS.F ht⟩) hS.2.2 dX9_isWeekday_15
  refine lv_if_lt (tgt := 14) hx hb dX9_isWeekday_1 (by decide) (fun c1 => ?_) (fun c1 => ?_)
  · replace hm := ite_t c1 hm
    exact J14  _ _ _ hm hP hS (lv_sub hl [] rfl)
  · replace hm := ite_f c1 hm
    refine lv_iload_n hx hb dX9_isWeekday_4 rfl (lv_at hl 0 rfl) ?_
    refine lv_bipush (v := (7 : Int32)) hx hb dX9_isWeekday_5 (by decide) ?_
    refine lv_icmp_ge (tgt := 14) hx hb dX9_isWeekday_7 (by decide) (fun c2 => ?_) (fun c2 => ?_)
    · replace hm := ite_t c2 hm
      exact J14  _ _ _ hm hP hS (lv_sub hl [] rfl)
    · replace hm := ite_f c2 hm
      refine lv_iconst (v := (1 : Int32)) hx hb dX9_isWeekday_10 (by decide) ?_
      refine lv_goto (tgt := 15) hx hb dX9_isWeekday_11 (by decide) ?_
      obtain rfl := Option.some.inj hm
      subst hQ
      exact W.zret hx hb hr rfl (fun t ht hW => ⟨⟨_, (), rfl, rfl, kb_h hP ht⟩, hS.F ht⟩) hS.2.2 dX9_isWeekday_15
set_option maxHeartbeats 4000000 in
set_option maxRecDepth 100000 in
theorem c_X1_hasCase (l : Launch) (dC : Nat → ClassId) (dI : Nat → Nat → Nat) (cI cJ cZ cQ : ClassId) (t sz : Nat) (a_th : Nat) (v_facts : Int32) (v_so : Int32) (v_common : Int32) (v_cases : Int32) (v_firstTrueDay : Int32) (p_1 : Int32) (o : Int32) (hm : m_X1_hasCase p_1 v_facts = some o) : Met l yX1_hasCase wsX1_hasCase { frames := 0, cells := 0, slots := 0, locals := 0 } (va_Pc [.ref a_th, .int p_1] (cP (dC, dI) (kT cI cJ cZ cQ) t sz [oX1 a_th (.int v_facts) (.int v_so) (.int v_common) (.int v_cases) (.int v_firstTrueDay)])) (cQi (dC, dI) (va_A [oX1 a_th (.int v_facts) (.int v_so) (.int v_common) (.int v_cases) (.int v_firstTrueDay)] sz) o [oX1 a_th (.int v_facts) (.int v_so) (.int v_common) (.int v_cases) (.int v_firstTrueDay)]) 0 0 (va_A [oX1 a_th (.int v_facts) (.int v_so) (.int v_common) (.int v_cases) (.int v_firstTrueDay)] sz) := by
  refine Met.ofW (cc := cX1_hasCase) (maxL := 2) (ret := (some .boolean)) (by decide) rfl ?_
  intro p e s m args below meth c s₁ B hml hv
  obtain ⟨rfl, hsz, hP, hK, hD0, hG⟩ := hv
  have hx := B.exec
  have hb := B.bytes
  have hr := B.returns
  have hts := atoms_spec (ws := wsX1_hasCase) B.pre
  have hown : s.vm.findClass RX1 = some m.cls := findClass_of_methodNamed B.named
  have hlocks := B.notSynchronized
  subst hsz
  have hD := hD0.self (sz := s.heap.size)
  generalize hAe : va_A [oX1 a_th (.int v_facts) (.int v_so) (.int v_common) (.int v_cases) (.int v_firstTrueDay)] s.heap.size = A at hD hG ⊢
  have hA : ∀ q : Nat, s.heap.size ≤ q → A q := fun q h => by rw [← hAe]; exact Or.inr h
  have hS : va_S A s.heap s.heap [] := va_S.rf
  have hl := lv_entry ([.ref a_th, .int p_1]) (n := 2) (Nat.le_of_ble_eq_true rfl)
  rw [lg_entry_eq]
  generalize (lg_sl ([.ref a_th, .int p_1]) ++ List.replicate (2 - (lg_sl ([.ref a_th, .int p_1])).length) Slot.unset).toArray = ls at hl ⊢
  have hl : lv_has ls 2 [(0, .ref a_th), (1, .int p_1)] := hl
  have iX1 : ∀ w ∈ wsX10, w ∈ wsX1_hasCase := fun _ h => List.mem_cons_of_mem _ (List.mem_append_right _ h)
  have f37 := hts (.fieldLink RX1 37 "TrueOnceWeek$Castle" "facts" "I") (by decide +kernel)
  refine kb_gen (fun Q hQ => ?_)
  unfold m_X1_hasCase at hm
  refine lv_iload_n hx hb dX1_hasCase_0 rfl (lv_at hl 1 rfl) ?_
  obtain ⟨k18, ek18, hm⟩ := nm_s hm
  have J18 : ∀ (H : Heap) (locs : List Loc) (ls : Array Slot), k18 = some o → va_P (dC, dI) vwCl [oX1 a_th (.int v_facts) (.int v_so) (.int v_common) (.int v_cases) (.int v_firstTrueDay)] H → va_S A s.heap H locs → lv_has ls 2 [] → W p l e (headSpec wsX1_hasCase { frames := 0, cells := 0, slots := 0, locals := 0 }).room s m [.ref a_th, .int p_1].toArray below meth c H locs 0 0 Q (F0 m 18 ls []) := by
    intro  H locs ls hm hP hS hl
    rw [ek18] at hm
    refine lv_iconst (v := (0 : Int32)) hx hb dX1_hasCase_18 (by decide) ?_
    obtain rfl := Option.some.inj hm
    subst hQ
    exact W.zret hx hb hr rfl (fun t ht hW => ⟨⟨_, (), rfl, rfl, kb_h hP ht⟩, hS.F ht⟩) hS.2.2 dX1_hasCase_19
  refine lv_if_lt (tgt := 18) hx hb dX1_hasCase_1 (by decide) (fun c1 => ?_) (fun c1 => ?_)
  · replace hm := ite_t c1 hm
    exact J18  _ _ _ hm hP hS (lv_sub hl [] rfl)
  · replace hm := ite_f c1 hm
    refine lv_iload_n hx hb dX1_hasCase_4 rfl (lv_at hl 1 rfl) ?_
    refine lv_iconst (v := (1 : Int32)) hx hb dX1_hasCase_5 (by decide) ?_
    refine lv_aload_n hx hb dX1_hasCase_6 rfl (lv_at hl 0 rfl) ?_
    refine va_get (D := (dC, dI)) (ci := 1) (v := .int v_facts) (C := RX1) (T := TX1) (N := 5) hx hb hts iX1 hown hK hP 0 rfl rfl 0 (by decide) f37 (fun _ h9 => h9) rfl dX1_hasCase_7 ?_
    refine lv_ishl hx hb dX1_hasCase_10 ?_
    refine lv_icmp_ge (tgt := 18) hx hb dX1_hasCase_11 (by decide) (fun c2 => ?_) (fun c2 => ?_)
    · replace hm := ite_t c2 hm
      exact J18  _ _ _ hm hP hS (lv_sub hl [] rfl)
    · replace hm := ite_f c2 hm
      refine lv_iconst (v := (1 : Int32)) hx hb dX1_hasCase_14 (by decide) ?_
      refine lv_goto (tgt := 19) hx hb dX1_hasCase_15 (by decide) ?_
      obtain rfl := Option.some.inj hm
      subst hQ
      exact W.zret hx hb hr rfl (fun t ht hW => ⟨⟨_, (), rfl, rfl, kb_h hP ht⟩, hS.F ht⟩) hS.2.2 dX1_hasCase_19
set_option maxHeartbeats 4000000 in
set_option maxRecDepth 100000 in
theorem c_X9_answer (l : Launch) (dC : Nat → ClassId) (dI : Nat → Nat → Nat) (cI cJ cZ cQ : ClassId) (t sz : Nat) (a_th : Nat) (a_theCastle : Nat) (a_theQuestion : Nat) (a_theQuestion_letters : Nat) (a_theQuestion_letters_bytes : Nat) (a_now : Nat) (a_theQuestion_stack : Nat) (n_theQuestion_letters_bytes : Nat) (q_theText : Value) (q_theActs : Value) (q_theTold : Value) (q_foresight : Value) (q_keptMoments : Value) (q_isKept : Value) (q_marchWorlds : Value) (q_now_known : Value) (v_theSeed : Int64) (v_theCastle_facts : Int32) (v_theCastle_so : Int32) (v_theCastle_common : Int32) (v_theCastle_cases : Int32) (v_theCastle_firstTrueDay : Int32) (v_theQuestion_letters_length : Int32) (v_theQuestion_letters_bytes : (Nat → Int32)) (v_now_date : Int32) (v_now_trueDay : Int32) (v_now_wasAsked : Int32) (v_now_clothState : Int32) (v_now_cracks : Int32) (v_theQuestion_stack : (Nat → Int32)) (p_1 : Int32) (p_2 : Int32) (o : Int32 × (Nat → Int32)) (hm : m_X9_answer p_1 p_2 n_theQuestion_letters_bytes v_theCastle_facts v_theQuestion_letters_length v_theQuestion_letters_bytes v_now_date v_theQuestion_stack = some o) : Met l yX9_answer wsX9_answer { frames := 5, cells := 0, slots := 0, locals := 119 } (va_Pc [.ref a_th, .int p_1, .int p_2] (cP (dC, dI) (kT cI cJ cZ cQ) t sz [oX9 a_th q_theText (.ref a_theQuestion) (.ref a_theCastle) (.ref a_now) q_theActs q_theTold q_foresight q_keptMoments q_isKept q_marchWorlds (.long v_theSeed), oX1 a_theCastle (.int v_theCastle_facts) (.int v_theCastle_so) (.int v_theCastle_common) (.int v_theCastle_cases) (.int v_theCastle_firstTrueDay), oX5 a_theQuestion (.ref a_theQuestion_letters) (.ref a_theQuestion_stack), oX3 a_theQuestion_letters (.ref a_theQuestion_letters_bytes) (.int v_theQuestion_letters_length), aI cI a_theQuestion_letters_bytes n_theQuestion_letters_bytes v_theQuestion_letters_bytes, oX4 a_now (.int v_now_date) (.int v_now_trueDay) (.int v_now_wasAsked) (.int v_now_clothState) (.int v_now_cracks) q_now_known, aI cI a_theQuestion_stack 16 v_theQuestion_stack])) (cQi (dC, dI) (va_A [oX9 a_th q_theText (.ref a_theQuestion) (.ref a_theCastle) (.ref a_now) q_theActs q_theTold q_foresight q_keptMoments q_isKept q_marchWorlds (.long v_theSeed), oX1 a_theCastle (.int v_theCastle_facts) (.int v_theCastle_so) (.int v_theCastle_common) (.int v_theCastle_cases) (.int v_theCastle_firstTrueDay), oX5 a_theQuestion (.ref a_theQuestion_letters) (.ref a_theQuestion_stack), oX3 a_theQuestion_letters (.ref a_theQuestion_letters_bytes) (.int v_theQuestion_letters_length), aI cI a_theQuestion_letters_bytes n_theQuestion_letters_bytes v_theQuestion_letters_bytes, oX4 a_now (.int v_now_date) (.int v_now_trueDay) (.int v_now_wasAsked) (.int v_now_clothState) (.int v_now_cracks) q_now_known, aI cI a_theQuestion_stack 16 v_theQuestion_stack] sz) o.1 [oX9 a_th q_theText (.ref a_theQuestion) (.ref a_theCastle) (.ref a_now) q_theActs q_theTold q_foresight q_keptMoments q_isKept q_marchWorlds (.long v_theSeed), oX1 a_theCastle (.int v_theCastle_facts) (.int v_theCastle_so) (.int v_theCastle_common) (.int v_theCastle_cases) (.int v_theCastle_firstTrueDay), oX5 a_theQuestion (.ref a_theQuestion_letters) (.ref a_theQuestion_stack), oX3 a_theQuestion_letters (.ref a_theQuestion_letters_bytes) (.int v_theQuestion_letters_length), aI cI a_theQuestion_letters_bytes n_theQuestion_letters_bytes v_theQuestion_letters_bytes, oX4 a_now (.int v_now_date) (.int v_now_trueDay) (.int v_now_wasAsked) (.int v_now_clothState) (.int v_now_cracks) q_now_known, aI cI a_theQuestion_stack 16 (o.2)]) 0 0 (va_A [oX9 a_th q_theText (.ref a_theQuestion) (.ref a_theCastle) (.ref a_now) q_theActs q_theTold q_foresight q_keptMoments q_isKept q_marchWorlds (.long v_theSeed), oX1 a_theCastle (.int v_theCastle_facts) (.int v_theCastle_so) (.int v_theCastle_common) (.int v_theCastle_cases) (.int v_theCastle_firstTrueDay), oX5 a_theQuestion (.ref a_theQuestion_letters) (.ref a_theQuestion_stack), oX3 a_theQuestion_letters (.ref a_theQuestion_letters_bytes) (.int v_theQuestion_letters_length), aI cI a_theQuestion_letters_bytes n_theQuestion_letters_bytes v_theQuestion_letters_bytes, oX4 a_now (.int v_now_date) (.int v_now_trueDay) (.int v_now_wasAsked) (.int v_now_clothState) (.int v_now_cracks) q_now_known, aI cI a_theQuestion_stack 16 v_theQuestion_stack] sz) := by
  refine Met.ofW (cc := cX9_answer) (maxL := 3) (ret := (some .int)) (by decide) rfl ?_
  intro p e s m args below meth c s₁ B hml hv
  obtain ⟨rfl, hsz, hP, hK, hD0, hG⟩ := hv
  have hx := B.exec
  have hb := B.bytes
  have hr := B.returns
  have hts := atoms_spec (ws := wsX9_answer) B.pre
  have hown : s.vm.findClass RX9 = some m.cls := findClass_of_methodNamed B.named
  have hlocks := B.notSynchronized
  subst hsz
  have hD := hD0.self (sz := s.heap.size)
  generalize hAe : va_A [oX9 a_th q_theText (.ref a_theQuestion) (.ref a_theCastle) (.ref a_now) q_theActs q_theTold q_foresight q_keptMoments q_isKept q_marchWorlds (.long v_theSeed), oX1 a_theCastle (.int v_theCastle_facts) (.int v_theCastle_so) (.int v_theCastle_common) (.int v_theCastle_cases) (.int v_theCastle_firstTrueDay), oX5 a_theQuestion (.ref a_theQuestion_letters) (.ref a_theQuestion_stack), oX3 a_theQuestion_letters (.ref a_theQuestion_letters_bytes) (.int v_theQuestion_letters_length), aI cI a_theQuestion_letters_bytes n_theQuestion_letters_bytes v_theQuestion_letters_bytes, oX4 a_now (.int v_now_date) (.int v_now_trueDay) (.int v_now_wasAsked) (.int v_now_clothState) (.int v_now_cracks) q_now_known, aI cI a_theQuestion_stack 16 v_theQuestion_stack] s.heap.size = A at hD hG ⊢
  have hA : ∀ q : Nat, s.heap.size ≤ q → A q := fun q h => by rw [← hAe]; exact Or.inr h
  have hS : va_S A s.heap s.heap [] := va_S.rf
  have hl := lv_entry ([.ref a_th, .int p_1, .int p_2]) (n := 3) (Nat.le_of_ble_eq_true rfl)
  rw [lg_entry_eq]
  generalize (lg_sl ([.ref a_th, .int p_1, .int p_2]) ++ List.replicate (3 - (lg_sl ([.ref a_th, .int p_1, .int p_2])).length) Slot.unset).toArray = ls at hl ⊢
  have hl : lv_has ls 3 [(0, .ref a_th), (1, .int p_1), (2, .int p_2)] := hl
  have iX9 : ∀ w ∈ wsX90, w ∈ wsX9_answer := fun _ h => List.mem_cons_of_mem _ (List.mem_append_left _ (List.mem_append_left _ (List.mem_append_left _ (List.mem_append_left _ (List.mem_append_right _ h)))))
  have iX1 : ∀ w ∈ wsX10, w ∈ wsX9_answer := fun _ h => List.mem_cons_of_mem _ (List.mem_append_left _ (List.mem_append_left _ (List.mem_append_left _ (List.mem_append_right _ h))))
  have iX5 : ∀ w ∈ wsX50, w ∈ wsX9_answer := fun _ h => List.mem_cons_of_mem _ (List.mem_append_left _ (List.mem_append_left _ (List.mem_append_right _ h)))
  have iX3 : ∀ w ∈ wsX30, w ∈ wsX9_answer := fun _ h => List.mem_cons_of_mem _ (List.mem_append_left _ (List.mem_append_right _ h))
  have iX4 : ∀ w ∈ wsX40, w ∈ wsX9_answer := fun _ h => List.mem_cons_of_mem _ (List.mem_append_right _ h)
  have f28 := hts (.fieldLink RX9 28 "TrueOnceWeek" "theCastle" "LTrueOnceWeek$Castle;") (by decide +kernel)
  have f21 := hts (.fieldLink RX9 21 "TrueOnceWeek" "theQuestion" "LTrueOnceWeek$Question;") (by decide +kernel)
  have f35 := hts (.fieldLink RX9 35 "TrueOnceWeek" "now" "LTrueOnceWeek$Moment;") (by decide +kernel)
  refine kb_gen (fun Q hQ => ?_)
  unfold m_X9_answer at hm
  refine lv_iload_n hx hb dX9_answer_0 rfl (lv_at hl 1 rfl) ?_
  obtain ⟨r1, ho2, hm⟩ := bd1_s hm
  refine kb_calli (Rv := r1) (va_runS (As := [.int p_1]) (rest := []) ⟨hx, hb, hml, hown, hts⟩ (c_X9_isWeekday l dC dI cI cJ cZ cQ t s.heap.size p_1 (r1) ho2) (va_cwS 1 hts gX9_answer_X9_isWeekday rfl rfl rfl (by decide +kernel) ⟨(Nat.le_of_ble_eq_true rfl), (Nat.le_of_ble_eq_true rfl)⟩) (kb_pre hK hG hP (kb_D hD rfl) hS hA [] rfl (by decide)) rfl rfl hl.1 rfl (lv_room (Nat.le_of_ble_eq_true rfl)) dX9_answer_1 ⟨Nat.zero_le _, Nat.zero_le _⟩) hP (kb_D hD rfl) hS hA [] rfl [(false, 0), (false, 1), (false, 2), (false, 3), (false, 4), (false, 5), (false, 6)] (w2 := [oX9 a_th q_theText (.ref a_theQuestion) (.ref a_theCastle) (.ref a_now) q_theActs q_theTold q_foresight q_keptMoments q_isKept q_marchWorlds (.long v_theSeed), oX1 a_theCastle (.int v_theCastle_facts) (.int v_theCastle_so) (.int v_theCastle_common) (.int v_theCastle_cases) (.int v_theCastle_firstTrueDay), oX5 a_theQuestion (.ref a_theQuestion_letters) (.ref a_theQuestion_stack), oX3 a_theQuestion_letters (.ref a_theQuestion_letters_bytes) (.int v_theQuestion_letters_length), aI cI a_theQuestion_letters_bytes n_theQuestion_letters_bytes v_theQuestion_letters_bytes, oX4 a_now (.int v_now_date) (.int v_now_trueDay) (.int v_now_wasAsked) (.int v_now_clothState) (.int v_now_cracks) q_now_known, aI cI a_theQuestion_stack 16 v_theQuestion_stack]) rfl (by decide) (fun H locs hP hS => ?_)
  refine lv_if_eq (tgt := 18) hx hb dX9_answer_4 (by decide) (fun c3 => ?_) (fun c3 => ?_)
  · replace hm := ite_t c3 hm
    refine lv_bipush (v := (-2 : Int32)) hx hb dX9_answer_18 (by decide) ?_
    obtain rfl := Option.some.inj hm
    subst hQ
    exact W.iret hx hb hr (fun t ht hW => ⟨⟨_, (), rfl, rfl, kb_h hP ht⟩, hS.F ht⟩) hS.2.2 dX9_answer_20
  · replace hm := ite_f c3 hm
    refine lv_aload_n hx hb dX9_answer_7 rfl (lv_at hl 0 rfl) ?_
    refine va_get (D := (dC, dI)) (ci := 7) (v := .ref a_theCastle) (C := RX9) (T := TX9) (N := 11) hx hb hts iX9 hown hK hP 0 rfl rfl 2 (by decide) f28 (fun _ h9 => h9) rfl dX9_answer_8 ?_
    refine lv_iload_n hx hb dX9_answer_11 rfl (lv_at hl 2 rfl) ?_
    obtain ⟨r4, ho5, hm⟩ := bd1_s hm
    refine kb_calli (Rv := r4) (va_runV (As := [.int p_2]) (rest := []) ⟨hx, hb, hml, hown, hts⟩ (c_X1_hasCase l dC dI cI cJ cZ cQ t H.size a_theCastle v_theCastle_facts v_theCastle_so v_theCastle_common v_theCastle_cases v_theCastle_firstTrueDay p_2 (r4) ho5) (cwV 1 hts gX9_answer_X1_hasCase rfl rfl rfl (by decide +kernel) ⟨(Nat.le_of_ble_eq_true rfl), (Nat.le_of_ble_eq_true rfl)⟩) ⟨(kb_pre hK hG hP (kb_D hD rfl) hS hA [1] rfl (by decide)).1, (va_recv hK hP (ci := 1) (q0 := 1) rfl rfl), (kb_pre hK hG hP (kb_D hD rfl) hS hA [1] rfl (by decide)).2⟩ rfl rfl hl.1 rfl (lv_room (Nat.le_of_ble_eq_true rfl)) dX9_answer_12 ⟨Nat.zero_le _, Nat.zero_le _⟩) hP (kb_D hD rfl) hS hA [1] rfl [(false, 0), (true, 0), (false, 2), (false, 3), (false, 4), (false, 5), (false, 6)] (w2 := [oX9 a_th q_theText (.ref a_theQuestion) (.ref a_theCastle) (.ref a_now) q_theActs q_theTold q_foresight q_keptMoments q_isKept q_marchWorlds (.long v_theSeed), oX1 a_theCastle (.int v_theCastle_facts) (.int v_theCastle_so) (.int v_theCastle_common) (.int v_theCastle_cases) (.int v_theCastle_firstTrueDay), oX5 a_theQuestion (.ref a_theQuestion_letters) (.ref a_theQuestion_stack), oX3 a_theQuestion_letters (.ref a_theQuestion_letters_bytes) (.int v_theQuestion_letters_length), aI cI a_theQuestion_letters_bytes n_theQuestion_letters_bytes v_theQuestion_letters_bytes, oX4 a_now (.int v_now_date) (.int v_now_trueDay) (.int v_now_wasAsked) (.int v_now_clothState) (.int v_now_cracks) q_now_known, aI cI a_theQuestion_stack 16 v_theQuestion_stack]) rfl (by decide) (fun H locs hP hS => ?_)
    refine lv_if_ne (tgt := 21) hx hb dX9_answer_15 (by decide) (fun c6 => ?_) (fun c6 => ?_)
    · replace hm := ite_f c6 hm
      refine lv_aload_n hx hb dX9_answer_21 rfl (lv_at hl 0 rfl) ?_
      obtain ⟨r7, ho8, hm⟩ := bd1_s hm
      refine kb_calli (Rv := r7) (va_runV (As := []) (rest := []) ⟨hx, hb, hml, hown, hts⟩ (c_X9_hasSlip l dC dI cI cJ cZ cQ t H.size a_th a_theQuestion a_theQuestion_letters a_theQuestion_letters_bytes a_theCastle n_theQuestion_letters_bytes q_theText (.ref a_now) q_theActs q_theTold q_foresight q_keptMoments q_isKept q_marchWorlds (.ref a_theQuestion_stack) v_theSeed v_theQuestion_letters_length v_theQuestion_letters_bytes v_theCastle_facts v_theCastle_so v_theCastle_common v_theCastle_cases v_theCastle_firstTrueDay (r7) ho8) (cwV 0 hts gX9_answer_X9_hasSlip rfl rfl rfl (by decide +kernel) ⟨(Nat.le_of_ble_eq_true rfl), (Nat.le_of_ble_eq_true rfl)⟩) ⟨(kb_pre hK hG hP (kb_D hD rfl) hS hA [0, 2, 3, 4, 1] rfl (by decide)).1, (va_recv hK hP (ci := 7) (q0 := 0) rfl rfl), (kb_pre hK hG hP (kb_D hD rfl) hS hA [0, 2, 3, 4, 1] rfl (by decide)).2⟩ rfl rfl hl.1 rfl (lv_room (Nat.le_of_ble_eq_true rfl)) dX9_answer_22 ⟨Nat.zero_le _, Nat.zero_le _⟩) hP (kb_D hD rfl) hS hA [0, 2, 3, 4, 1] rfl [(true, 0), (true, 4), (true, 1), (true, 2), (true, 3), (false, 5), (false, 6)] (w2 := [oX9 a_th q_theText (.ref a_theQuestion) (.ref a_theCastle) (.ref a_now) q_theActs q_theTold q_foresight q_keptMoments q_isKept q_marchWorlds (.long v_theSeed), oX1 a_theCastle (.int v_theCastle_facts) (.int v_theCastle_so) (.int v_theCastle_common) (.int v_theCastle_cases) (.int v_theCastle_firstTrueDay), oX5 a_theQuestion (.ref a_theQuestion_letters) (.ref a_theQuestion_stack), oX3 a_theQuestion_letters (.ref a_theQuestion_letters_bytes) (.int v_theQuestion_letters_length), aI cI a_theQuestion_letters_bytes n_theQuestion_letters_bytes v_theQuestion_letters_bytes, oX4 a_now (.int v_now_date) (.int v_now_trueDay) (.int v_now_wasAsked) (.int v_now_clothState) (.int v_now_cracks) q_now_known, aI cI a_theQuestion_stack 16 v_theQuestion_stack]) rfl (by decide) (fun H locs hP hS => ?_)
      refine lv_if_eq (tgt := 31) hx hb dX9_answer_25 (by decide) (fun c9 => ?_) (fun c9 => ?_)
      · replace hm := ite_t c9 hm
        refine lv_aload_n hx hb dX9_answer_31 rfl (lv_at hl 0 rfl) ?_
        refine va_get (D := (dC, dI)) (ci := 7) (v := .ref a_theQuestion) (C := RX9) (T := TX9) (N := 11) hx hb hts iX9 hown hK hP 0 rfl rfl 1 (by decide) f21 (fun _ h9 => h9) rfl dX9_answer_32 ?_
        refine lv_aload_n hx hb dX9_answer_35 rfl (lv_at hl 0 rfl) ?_
        refine va_get (D := (dC, dI)) (ci := 7) (v := .ref a_now) (C := RX9) (T := TX9) (N := 11) hx hb hts iX9 hown hK hP 0 rfl rfl 3 (by decide) f35 (fun _ h9 => h9) rfl dX9_answer_36 ?_
        obtain ⟨r10, ho11, hm⟩ := bd1_s hm
        refine kb_calli (Rv := r10) (va_runV (As := []) (rest := [.ref a_theQuestion]) ⟨hx, hb, hml, hown, hts⟩ (c_X4_weekday l dC dI cI cJ cZ cQ t H.size a_now q_now_known v_now_date v_now_trueDay v_now_wasAsked v_now_clothState v_now_cracks (r10) ho11) (cwV 0 hts gX9_answer_X4_weekday rfl rfl rfl (by decide +kernel) ⟨(Nat.le_of_ble_eq_true rfl), (Nat.le_of_ble_eq_true rfl)⟩) ⟨(kb_pre hK hG hP (kb_D hD rfl) hS hA [5] rfl (by decide)).1, (va_recv hK hP (ci := 4) (q0 := 5) rfl rfl), (kb_pre hK hG hP (kb_D hD rfl) hS hA [5] rfl (by decide)).2⟩ rfl rfl hl.1 rfl (lv_room (Nat.le_of_ble_eq_true rfl)) dX9_answer_39 ⟨Nat.zero_le _, Nat.zero_le _⟩) hP (kb_D hD rfl) hS hA [5] rfl [(false, 0), (false, 1), (false, 2), (false, 3), (false, 4), (true, 0), (false, 6)] (w2 := [oX9 a_th q_theText (.ref a_theQuestion) (.ref a_theCastle) (.ref a_now) q_theActs q_theTold q_foresight q_keptMoments q_isKept q_marchWorlds (.long v_theSeed), oX1 a_theCastle (.int v_theCastle_facts) (.int v_theCastle_so) (.int v_theCastle_common) (.int v_theCastle_cases) (.int v_theCastle_firstTrueDay), oX5 a_theQuestion (.ref a_theQuestion_letters) (.ref a_theQuestion_stack), oX3 a_theQuestion_letters (.ref a_theQuestion_letters_bytes) (.int v_theQuestion_letters_length), aI cI a_theQuestion_letters_bytes n_theQuestion_letters_bytes v_theQuestion_letters_bytes, oX4 a_now (.int v_now_date) (.int v_now_trueDay) (.int v_now_wasAsked) (.int v_now_clothState) (.int v_now_cracks) q_now_known, aI cI a_theQuestion_stack 16 v_theQuestion_stack]) rfl (by decide) (fun H locs hP hS => ?_)
        refine lv_iload_n hx hb dX9_answer_42 rfl (lv_at hl 1 rfl) ?_
        refine lv_iload_n hx hb dX9_answer_43 rfl (lv_at hl 2 rfl) ?_
        refine lv_iconst (v := (0 : Int32)) hx hb dX9_answer_44 (by decide) ?_
        obtain ⟨r12, w13, ho14, hm⟩ := bd2_s hm
        refine kb_calli (Rv := r12) (va_runV (As := [.int r10, .int p_1, .int p_2, .int (0 : Int32)]) (rest := []) ⟨hx, hb, hml, hown, hts⟩ (c_X5_answerIn l dC dI cI cJ cZ cQ t H.size a_theQuestion a_theQuestion_letters a_theQuestion_letters_bytes a_theQuestion_stack n_theQuestion_letters_bytes v_theQuestion_letters_length v_theQuestion_letters_bytes v_theQuestion_stack r10 p_1 p_2 (0 : Int32) (r12, w13) ho14) (cwV 4 hts gX9_answer_X5_answerIn rfl rfl rfl (by decide +kernel) ⟨(Nat.le_of_ble_eq_true rfl), (Nat.le_of_ble_eq_true rfl)⟩) ⟨(kb_pre hK hG hP (kb_D hD rfl) hS hA [2, 3, 4, 6] rfl (by decide)).1, (va_recv hK hP (ci := 5) (q0 := 2) rfl rfl), (kb_pre hK hG hP (kb_D hD rfl) hS hA [2, 3, 4, 6] rfl (by decide)).2⟩ rfl rfl hl.1 rfl (lv_room (Nat.le_of_ble_eq_true rfl)) dX9_answer_45 ⟨Nat.zero_le _, Nat.zero_le _⟩) hP (kb_D hD rfl) hS hA [2, 3, 4, 6] rfl [(false, 0), (false, 1), (true, 0), (true, 1), (true, 2), (false, 5), (true, 3)] (w2 := [oX9 a_th q_theText (.ref a_theQuestion) (.ref a_theCastle) (.ref a_now) q_theActs q_theTold q_foresight q_keptMoments q_isKept q_marchWorlds (.long v_theSeed), oX1 a_theCastle (.int v_theCastle_facts) (.int v_theCastle_so) (.int v_theCastle_common) (.int v_theCastle_cases) (.int v_theCastle_firstTrueDay), oX5 a_theQuestion (.ref a_theQuestion_letters) (.ref a_theQuestion_stack), oX3 a_theQuestion_letters (.ref a_theQuestion_letters_bytes) (.int v_theQuestion_letters_length), aI cI a_theQuestion_letters_bytes n_theQuestion_letters_bytes v_theQuestion_letters_bytes, oX4 a_now (.int v_now_date) (.int v_now_trueDay) (.int v_now_wasAsked) (.int v_now_clothState) (.int v_now_cracks) q_now_known, aI cI a_theQuestion_stack 16 w13]) rfl (by decide) (fun H locs hP hS => ?_)
        obtain ⟨r15, ho16, hm⟩ := bd1_s hm
        refine kb_calli (Rv := r15) (va_runS (As := [.int r12]) (rest := []) ⟨hx, hb, hml, hown, hts⟩ (c_X9_told l dC dI cI cJ cZ cQ t H.size r12 (r15) ho16) (va_cwS 1 hts gX9_answer_X9_told rfl rfl rfl (by decide +kernel) ⟨(Nat.le_of_ble_eq_true rfl), (Nat.le_of_ble_eq_true rfl)⟩) (kb_pre hK hG hP (kb_D hD rfl) hS hA [] rfl (by decide)) rfl rfl hl.1 rfl (lv_room (Nat.le_of_ble_eq_true rfl)) dX9_answer_48 ⟨Nat.zero_le _, Nat.zero_le _⟩) hP (kb_D hD rfl) hS hA [] rfl [(false, 0), (false, 1), (false, 2), (false, 3), (false, 4), (false, 5), (false, 6)] (w2 := [oX9 a_th q_theText (.ref a_theQuestion) (.ref a_theCastle) (.ref a_now) q_theActs q_theTold q_foresight q_keptMoments q_isKept q_marchWorlds (.long v_theSeed), oX1 a_theCastle (.int v_theCastle_facts) (.int v_theCastle_so) (.int v_theCastle_common) (.int v_theCastle_cases) (.int v_theCastle_firstTrueDay), oX5 a_theQuestion (.ref a_theQuestion_letters) (.ref a_theQuestion_stack), oX3 a_theQuestion_letters (.ref a_theQuestion_letters_bytes) (.int v_theQuestion_letters_length), aI cI a_theQuestion_letters_bytes n_theQuestion_letters_bytes v_theQuestion_letters_bytes, oX4 a_now (.int v_now_date) (.int v_now_trueDay) (.int v_now_wasAsked) (.int v_now_clothState) (.int v_now_cracks) q_now_known, aI cI a_theQuestion_stack 16 w13]) rfl (by decide) (fun H locs hP hS => ?_)
        obtain rfl := Option.some.inj hm
        subst hQ
        exact W.iret hx hb hr (fun t ht hW => ⟨⟨_, (), rfl, rfl, kb_h hP ht⟩, hS.F ht⟩) hS.2.2 dX9_answer_51
      · replace hm := ite_f c9 hm
        refine lv_bipush (v := (-3 : Int32)) hx hb dX9_answer_28 (by decide) ?_
        obtain rfl := Option.some.inj hm
        subst hQ
        exact W.iret hx hb hr (fun t ht hW => ⟨⟨_, (), rfl, rfl, kb_h hP ht⟩, hS.F ht⟩) hS.2.2 dX9_answer_30
    · replace hm := ite_t c6 hm
      refine lv_bipush (v := (-2 : Int32)) hx hb dX9_answer_18 (by decide) ?_
      obtain rfl := Option.some.inj hm
      subst hQ
      exact W.iret hx hb hr (fun t ht hW => ⟨⟨_, (), rfl, rfl, kb_h hP ht⟩, hS.F ht⟩) hS.2.2 dX9_answer_20
set_option maxHeartbeats 4000000 in
set_option maxRecDepth 100000 in
theorem c_X9_isAnswer (l : Launch) (dC : Nat → ClassId) (dI : Nat → Nat → Nat) (cI cJ cZ cQ : ClassId) (t sz : Nat) (p_0 : Int32) (o : Int32) (hm : m_X9_isAnswer p_0 = some o) : Met l yX9_isAnswer wsX9_isAnswer { frames := 0, cells := 0, slots := 0, locals := 0 } (va_Pc [.int p_0] (cP (dC, dI) (kT cI cJ cZ cQ) t sz [])) (cQi (dC, dI) (va_A [] sz) o []) 0 0 (va_A [] sz) := by
  refine Met.ofW (cc := cX9_isAnswer) (maxL := 1) (ret := (some .boolean)) (by decide) rfl ?_
  intro p e s m args below meth c s₁ B hml hv
  obtain ⟨rfl, hsz, hP, hK, hD0, hG⟩ := hv
  have hx := B.exec
  have hb := B.bytes
  have hr := B.returns
  have hts := atoms_spec (ws := wsX9_isAnswer) B.pre
  have hown : s.vm.findClass RX9 = some m.cls := findClass_of_methodNamed B.named
  have hlocks := B.notSynchronized
  subst hsz
  have hD := hD0.self (sz := s.heap.size)
  generalize hAe : va_A [] s.heap.size = A at hD hG ⊢
  have hA : ∀ q : Nat, s.heap.size ≤ q → A q := fun q h => by rw [← hAe]; exact Or.inr h
  have hS : va_S A s.heap s.heap [] := va_S.rf
  have hl := lv_entry ([.int p_0]) (n := 1) (Nat.le_of_ble_eq_true rfl)
  rw [lg_entry_eq]
  generalize (lg_sl ([.int p_0]) ++ List.replicate (1 - (lg_sl ([.int p_0])).length) Slot.unset).toArray = ls at hl ⊢
  have hl : lv_has ls 1 [(0, .int p_0)] := hl
  refine kb_gen (fun Q hQ => ?_)
  unfold m_X9_isAnswer at hm
  refine lv_iload_n hx hb dX9_isAnswer_0 rfl (lv_at hl 0 rfl) ?_
  obtain ⟨k13, ek13, hm⟩ := nm_s hm
  have J13 : ∀ (H : Heap) (locs : List Loc) (ls : Array Slot), k13 = some o → va_P (dC, dI) vwCl [] H → va_S A s.heap H locs → lv_has ls 1 [] → W p l e (headSpec wsX9_isAnswer { frames := 0, cells := 0, slots := 0, locals := 0 }).room s m [.int p_0].toArray below meth c H locs 0 0 Q (F0 m 13 ls []) := by
    intro  H locs ls hm hP hS hl
    rw [ek13] at hm
    refine lv_iconst (v := (0 : Int32)) hx hb dX9_isAnswer_13 (by decide) ?_
    obtain rfl := Option.some.inj hm
    subst hQ
    exact W.zret hx hb hr rfl (fun t ht hW => ⟨⟨_, (), rfl, rfl, kb_h hP ht⟩, hS.F ht⟩) hS.2.2 dX9_isAnswer_14
  refine lv_if_lt (tgt := 13) hx hb dX9_isAnswer_1 (by decide) (fun c1 => ?_) (fun c1 => ?_)
  · replace hm := ite_t c1 hm
    exact J13  _ _ _ hm hP hS (lv_sub hl [] rfl)
  · replace hm := ite_f c1 hm
    refine lv_iload_n hx hb dX9_isAnswer_4 rfl (lv_at hl 0 rfl) ?_
    refine lv_iconst (v := (2 : Int32)) hx hb dX9_isAnswer_5 (by decide) ?_
    refine lv_icmp_gt (tgt := 13) hx hb dX9_isAnswer_6 (by decide) (fun c2 => ?_) (fun c2 => ?_)
    · replace hm := ite_t c2 hm
      exact J13  _ _ _ hm hP hS (lv_sub hl [] rfl)
    · replace hm := ite_f c2 hm
      refine lv_iconst (v := (1 : Int32)) hx hb dX9_isAnswer_9 (by decide) ?_
      refine lv_goto (tgt := 14) hx hb dX9_isAnswer_10 (by decide) ?_
      obtain rfl := Option.some.inj hm
      subst hQ
      exact W.zret hx hb hr rfl (fun t ht hW => ⟨⟨_, (), rfl, rfl, kb_h hP ht⟩, hS.F ht⟩) hS.2.2 dX9_isAnswer_14
set_option maxHeartbeats 4000000 in
set_option maxRecDepth 100000 in
theorem c_X9_parts (l : Launch) (dC : Nat → ClassId) (dI : Nat → Nat → Nat) (cI cJ cZ cQ : ClassId) (t sz : Nat) (a_th : Nat) (a_theQuestion : Nat) (a_theQuestion_letters : Nat) (a_theQuestion_letters_bytes : Nat) (a_theCastle : Nat) (a_now : Nat) (a_now_known : Nat) (a_theQuestion_stack : Nat) (n_theQuestion_letters_bytes : Nat) (q_theText : Value) (q_theActs : Value) (q_theTold : Value) (q_foresight : Value) (q_keptMoments : Value) (q_isKept : Value) (q_marchWorlds : Value) (v_theSeed : Int64) (v_theQuestion_letters_length : Int32) (v_theQuestion_letters_bytes : (Nat → Int32)) (v_theCastle_facts : Int32) (v_theCastle_so : Int32) (v_theCastle_common : Int32) (v_theCastle_cases : Int32) (v_theCastle_firstTrueDay : Int32) (v_now_date : Int32) (v_now_trueDay : Int32) (v_now_wasAsked : Int32) (v_now_clothState : Int32) (v_now_cracks : Int32) (v_now_known : (Nat → Int32)) (v_theQuestion_stack : (Nat → Int32)) (p_1 : Int32) (o : Int32 × (Nat → Int32)) (hm : m_X9_parts p_1 n_theQuestion_letters_bytes v_theQuestion_letters_length v_theQuestion_letters_bytes v_theCastle_facts v_now_date v_now_known v_theQuestion_stack = some o) : Met l yX9_parts wsX9_parts { frames := 4, cells := 0, slots := 0, locals := 95 } (va_Pc [.ref a_th, .int p_1] (cP (dC, dI) (kT cI cJ cZ cQ) t sz [oX9 a_th q_theText (.ref a_theQuestion) (.ref a_theCastle) (.ref a_now) q_theActs q_theTold q_foresight q_keptMoments q_isKept q_marchWorlds (.long v_theSeed), oX5 a_theQuestion (.ref a_theQuestion_letters) (.ref a_theQuestion_stack), oX3 a_theQuestion_letters (.ref a_theQuestion_letters_bytes) (.int v_theQuestion_letters_length), aI cI a_theQuestion_letters_bytes n_theQuestion_letters_bytes v_theQuestion_letters_bytes, oX1 a_theCastle (.int v_theCastle_facts) (.int v_theCastle_so) (.int v_theCastle_common) (.int v_theCastle_cases) (.int v_theCastle_firstTrueDay), oX4 a_now (.int v_now_date) (.int v_now_trueDay) (.int v_now_wasAsked) (.int v_now_clothState) (.int v_now_cracks) (.ref a_now_known), aI cI a_now_known 7 v_now_known, aI cI a_theQuestion_stack 16 v_theQuestion_stack])) (cQi (dC, dI) (va_A [oX9 a_th q_theText (.ref a_theQuestion) (.ref a_theCastle) (.ref a_now) q_theActs q_theTold q_foresight q_keptMoments q_isKept q_marchWorlds (.long v_theSeed), oX5 a_theQuestion (.ref a_theQuestion_letters) (.ref a_theQuestion_stack), oX3 a_theQuestion_letters (.ref a_theQuestion_letters_bytes) (.int v_theQuestion_letters_length), aI cI a_theQuestion_letters_bytes n_theQuestion_letters_bytes v_theQuestion_letters_bytes, oX1 a_theCastle (.int v_theCastle_facts) (.int v_theCastle_so) (.int v_theCastle_common) (.int v_theCastle_cases) (.int v_theCastle_firstTrueDay), oX4 a_now (.int v_now_date) (.int v_now_trueDay) (.int v_now_wasAsked) (.int v_now_clothState) (.int v_now_cracks) (.ref a_now_known), aI cI a_now_known 7 v_now_known, aI cI a_theQuestion_stack 16 v_theQuestion_stack] sz) o.1 [oX9 a_th q_theText (.ref a_theQuestion) (.ref a_theCastle) (.ref a_now) q_theActs q_theTold q_foresight q_keptMoments q_isKept q_marchWorlds (.long v_theSeed), oX5 a_theQuestion (.ref a_theQuestion_letters) (.ref a_theQuestion_stack), oX3 a_theQuestion_letters (.ref a_theQuestion_letters_bytes) (.int v_theQuestion_letters_length), aI cI a_theQuestion_letters_bytes n_theQuestion_letters_bytes v_theQuestion_letters_bytes, oX1 a_theCastle (.int v_theCastle_facts) (.int v_theCastle_so) (.int v_theCastle_common) (.int v_theCastle_cases) (.int v_theCastle_firstTrueDay), oX4 a_now (.int v_now_date) (.int v_now_trueDay) (.int v_now_wasAsked) (.int v_now_clothState) (.int v_now_cracks) (.ref a_now_known), aI cI a_now_known 7 v_now_known, aI cI a_theQuestion_stack 16 (o.2)]) 0 0 (va_A [oX9 a_th q_theText (.ref a_theQuestion) (.ref a_theCastle) (.ref a_now) q_theActs q_theTold q_foresight q_keptMoments q_isKept q_marchWorlds (.long v_theSeed), oX5 a_theQuestion (.ref a_theQuestion_letters) (.ref a_theQuestion_stack), oX3 a_theQuestion_letters (.ref a_theQuestion_letters_bytes) (.int v_theQuestion_letters_length), aI cI a_theQuestion_letters_bytes n_theQuestion_letters_bytes v_theQuestion_letters_bytes, oX1 a_theCastle (.int v_theCastle_facts) (.int v_theCastle_so) (.int v_theCastle_common) (.int v_theCastle_cases) (.int v_theCastle_firstTrueDay), oX4 a_now (.int v_now_date) (.int v_now_trueDay) (.int v_now_wasAsked) (.int v_now_clothState) (.int v_now_cracks) (.ref a_now_known), aI cI a_now_known 7 v_now_known, aI cI a_theQuestion_stack 16 v_theQuestion_stack] sz) := by
  refine Met.ofW (cc := cX9_parts) (maxL := 5) (ret := (some .int)) (by decide) rfl ?_
  intro p e s m args below meth c s₁ B hml hv
  obtain ⟨rfl, hsz, hP, hK, hD0, hG⟩ := hv
  have hx := B.exec
  have hb := B.bytes
  have hr := B.returns
  have hts := atoms_spec (ws := wsX9_parts) B.pre
  have hown : s.vm.findClass RX9 = some m.cls := findClass_of_methodNamed B.named
  have hlocks := B.notSynchronized
  subst hsz
  have hD := hD0.self (sz := s.heap.size)
  generalize hAe : va_A [oX9 a_th q_theText (.ref a_theQuestion) (.ref a_theCastle) (.ref a_now) q_theActs q_theTold q_foresight q_keptMoments q_isKept q_marchWorlds (.long v_theSeed), oX5 a_theQuestion (.ref a_theQuestion_letters) (.ref a_theQuestion_stack), oX3 a_theQuestion_letters (.ref a_theQuestion_letters_bytes) (.int v_theQuestion_letters_length), aI cI a_theQuestion_letters_bytes n_theQuestion_letters_bytes v_theQuestion_letters_bytes, oX1 a_theCastle (.int v_theCastle_facts) (.int v_theCastle_so) (.int v_theCastle_common) (.int v_theCastle_cases) (.int v_theCastle_firstTrueDay), oX4 a_now (.int v_now_date) (.int v_now_trueDay) (.int v_now_wasAsked) (.int v_now_clothState) (.int v_now_cracks) (.ref a_now_known), aI cI a_now_known 7 v_now_known, aI cI a_theQuestion_stack 16 v_theQuestion_stack] s.heap.size = A at hD hG ⊢
  have hA : ∀ q : Nat, s.heap.size ≤ q → A q := fun q h => by rw [← hAe]; exact Or.inr h
  have hS : va_S A s.heap s.heap [] := va_S.rf
  have hl := lv_entry ([.ref a_th, .int p_1]) (n := 5) (Nat.le_of_ble_eq_true rfl)
  rw [lg_entry_eq]
  generalize (lg_sl ([.ref a_th, .int p_1]) ++ List.replicate (5 - (lg_sl ([.ref a_th, .int p_1])).length) Slot.unset).toArray = ls at hl ⊢
  have hl : lv_has ls 5 [(0, .ref a_th), (1, .int p_1)] := hl
  have iX9 : ∀ w ∈ wsX90, w ∈ wsX9_parts := fun _ h => List.mem_cons_of_mem _ (List.mem_append_left _ (List.mem_append_left _ (List.mem_append_left _ (List.mem_append_left _ (List.mem_append_right _ h)))))
  have iX4 : ∀ w ∈ wsX40, w ∈ wsX9_parts := fun _ h => List.mem_cons_of_mem _ (List.mem_append_left _ (List.mem_append_left _ (List.mem_append_left _ (List.mem_append_right _ h))))
  have iX5 : ∀ w ∈ wsX50, w ∈ wsX9_parts := fun _ h => List.mem_cons_of_mem _ (List.mem_append_left _ (List.mem_append_left _ (List.mem_append_right _ h)))
  have iX3 : ∀ w ∈ wsX30, w ∈ wsX9_parts := fun _ h => List.mem_cons_of_mem _ (List.mem_append_left _ (List.mem_append_right _ h))
  have iX1 : ∀ w ∈ wsX10, w ∈ wsX9_parts := fun _ h => List.mem_cons_of_mem _ (List.mem_append_right _ h)
  have f35 := hts (.fieldLink RX9 35 "TrueOnceWeek" "now" "LTrueOnceWeek$Moment;") (by decide +kernel)
  have f113 := va_Nw.use (A := [.ref a_th, .int p_1].toArray) (w := .fieldLinkNest RX9 113 "TrueOnceWeek$Moment" "known" "[I" "TrueOnceWeek") rfl (hG.1 (RX9, 113, "TrueOnceWeek$Moment", "known", "[I") (by decide +kernel))
  have f21 := hts (.fieldLink RX9 21 "TrueOnceWeek" "theQuestion" "LTrueOnceWeek$Question;") (by decide +kernel)
  refine kb_gen (fun Q hQ => ?_)
  unfold m_X9_parts at hm
  refine lv_iload_n hx hb dX9_parts_0 rfl (lv_at hl 1 rfl) ?_
  obtain ⟨r1, ho2, hm⟩ := bd1_s hm
  refine kb_calli (Rv := r1) (va_runS (As := [.int p_1]) (rest := []) ⟨hx, hb, hml, hown, hts⟩ (c_X9_isAnswer l dC dI cI cJ cZ cQ t s.heap.size p_1 (r1) ho2) (va_cwS 1 hts gX9_parts_X9_isAnswer rfl rfl rfl (by decide +kernel) ⟨(Nat.le_of_ble_eq_true rfl), (Nat.le_of_ble_eq_true rfl)⟩) (kb_pre hK hG hP (kb_D hD rfl) hS hA [] rfl (by decide)) rfl rfl hl.1 rfl (lv_room (Nat.le_of_ble_eq_true rfl)) dX9_parts_1 ⟨Nat.zero_le _, Nat.zero_le _⟩) hP (kb_D hD rfl) hS hA [] rfl [(false, 0), (false, 1), (false, 2), (false, 3), (false, 4), (false, 5), (false, 6), (false, 7)] (w2 := [oX9 a_th q_theText (.ref a_theQuestion) (.ref a_theCastle) (.ref a_now) q_theActs q_theTold q_foresight q_keptMoments q_isKept q_marchWorlds (.long v_theSeed), oX5 a_theQuestion (.ref a_theQuestion_letters) (.ref a_theQuestion_stack), oX3 a_theQuestion_letters (.ref a_theQuestion_letters_bytes) (.int v_theQuestion_letters_length), aI cI a_theQuestion_letters_bytes n_theQuestion_letters_bytes v_theQuestion_letters_bytes, oX1 a_theCastle (.int v_theCastle_facts) (.int v_theCastle_so) (.int v_theCastle_common) (.int v_theCastle_cases) (.int v_theCastle_firstTrueDay), oX4 a_now (.int v_now_date) (.int v_now_trueDay) (.int v_now_wasAsked) (.int v_now_clothState) (.int v_now_cracks) (.ref a_now_known), aI cI a_now_known 7 v_now_known, aI cI a_theQuestion_stack 16 v_theQuestion_stack]) rfl (by decide) (fun H locs hP hS => ?_)
  refine lv_if_ne (tgt := 10) hx hb dX9_parts_4 (by decide) (fun c3 => ?_) (fun c3 => ?_)
  · replace hm := ite_f c3 hm
    refine lv_aload_n hx hb dX9_parts_10 rfl (lv_at hl 0 rfl) ?_
    obtain ⟨r4, ho5, hm⟩ := bd1_s hm
    refine kb_calli (Rv := r4) (va_runV (As := []) (rest := []) ⟨hx, hb, hml, hown, hts⟩ (c_X9_hasSlip l dC dI cI cJ cZ cQ t H.size a_th a_theQuestion a_theQuestion_letters a_theQuestion_letters_bytes a_theCastle n_theQuestion_letters_bytes q_theText (.ref a_now) q_theActs q_theTold q_foresight q_keptMoments q_isKept q_marchWorlds (.ref a_theQuestion_stack) v_theSeed v_theQuestion_letters_length v_theQuestion_letters_bytes v_theCastle_facts v_theCastle_so v_theCastle_common v_theCastle_cases v_theCastle_firstTrueDay (r4) ho5) (cwV 0 hts gX9_parts_X9_hasSlip rfl rfl rfl (by decide +kernel) ⟨(Nat.le_of_ble_eq_true rfl), (Nat.le_of_ble_eq_true rfl)⟩) ⟨(kb_pre hK hG hP (kb_D hD rfl) hS hA [0, 1, 2, 3, 4] rfl (by decide)).1, (va_recv hK hP (ci := 7) (q0 := 0) rfl rfl), (kb_pre hK hG hP (kb_D hD rfl) hS hA [0, 1, 2, 3, 4] rfl (by decide)).2⟩ rfl rfl hl.1 rfl (lv_room (Nat.le_of_ble_eq_true rfl)) dX9_parts_11 ⟨Nat.zero_le _, Nat.zero_le _⟩) hP (kb_D hD rfl) hS hA [0, 1, 2, 3, 4] rfl [(true, 0), (true, 1), (true, 2), (true, 3), (true, 4), (false, 5), (false, 6), (false, 7)] (w2 := [oX9 a_th q_theText (.ref a_theQuestion) (.ref a_theCastle) (.ref a_now) q_theActs q_theTold q_foresight q_keptMoments q_isKept q_marchWorlds (.long v_theSeed), oX5 a_theQuestion (.ref a_theQuestion_letters) (.ref a_theQuestion_stack), oX3 a_theQuestion_letters (.ref a_theQuestion_letters_bytes) (.int v_theQuestion_letters_length), aI cI a_theQuestion_letters_bytes n_theQuestion_letters_bytes v_theQuestion_letters_bytes, oX1 a_theCastle (.int v_theCastle_facts) (.int v_theCastle_so) (.int v_theCastle_common) (.int v_theCastle_cases) (.int v_theCastle_firstTrueDay), oX4 a_now (.int v_now_date) (.int v_now_trueDay) (.int v_now_wasAsked) (.int v_now_clothState) (.int v_now_cracks) (.ref a_now_known), aI cI a_now_known 7 v_now_known, aI cI a_theQuestion_stack 16 v_theQuestion_stack]) rfl (by decide) (fun H locs hP hS => ?_)
    refine lv_if_eq (tgt := 20) hx hb dX9_parts_14 (by decide) (fun c6 => ?_) (fun c6 => ?_)
    · replace hm := ite_t c6 hm
      refine lv_aload_n hx hb dX9_parts_20 rfl (lv_at hl 0 rfl) ?_
      refine va_get (D := (dC, dI)) (ci := 7) (v := .ref a_now) (C := RX9) (T := TX9) (N := 11) hx hb hts iX9 hown hK hP 0 rfl rfl 3 (by decide) f35 (fun _ h9 => h9) rfl dX9_parts_21 ?_
      obtain ⟨r7, ho8, hm⟩ := bd1_s hm
      refine kb_calli (Rv := r7) (va_runV (As := []) (rest := []) ⟨hx, hb, hml, hown, hts⟩ (c_X4_weekday l dC dI cI cJ cZ cQ t H.size a_now (.ref a_now_known) v_now_date v_now_trueDay v_now_wasAsked v_now_clothState v_now_cracks (r7) ho8) (cwV 0 hts gX9_parts_X4_weekday rfl rfl rfl (by decide +kernel) ⟨(Nat.le_of_ble_eq_true rfl), (Nat.le_of_ble_eq_true rfl)⟩) ⟨(kb_pre hK hG hP (kb_D hD rfl) hS hA [5] rfl (by decide)).1, (va_recv hK hP (ci := 4) (q0 := 5) rfl rfl), (kb_pre hK hG hP (kb_D hD rfl) hS hA [5] rfl (by decide)).2⟩ rfl rfl hl.1 rfl (lv_room (Nat.le_of_ble_eq_true rfl)) dX9_parts_24 ⟨Nat.zero_le _, Nat.zero_le _⟩) hP (kb_D hD rfl) hS hA [5] rfl [(false, 0), (false, 1), (false, 2), (false, 3), (false, 4), (true, 0), (false, 6), (false, 7)] (w2 := [oX9 a_th q_theText (.ref a_theQuestion) (.ref a_theCastle) (.ref a_now) q_theActs q_theTold q_foresight q_keptMoments q_isKept q_marchWorlds (.long v_theSeed), oX5 a_theQuestion (.ref a_theQuestion_letters) (.ref a_theQuestion_stack), oX3 a_theQuestion_letters (.ref a_theQuestion_letters_bytes) (.int v_theQuestion_letters_length), aI cI a_theQuestion_letters_bytes n_theQuestion_letters_bytes v_theQuestion_letters_bytes, oX1 a_theCastle (.int v_theCastle_facts) (.int v_theCastle_so) (.int v_theCastle_common) (.int v_theCastle_cases) (.int v_theCastle_firstTrueDay), oX4 a_now (.int v_now_date) (.int v_now_trueDay) (.int v_now_wasAsked) (.int v_now_clothState) (.int v_now_cracks) (.ref a_now_known), aI cI a_now_known 7 v_now_known, aI cI a_theQuestion_stack 16 v_theQuestion_stack]) rfl (by decide) (fun H locs hP hS => ?_)
      refine lv_istore_n (lv' := [(2, .int r7), (0, .ref a_th), (1, .int p_1)]) hx hb dX9_parts_27 rfl hl (by decide) rfl (fun ls hl => ?_)
      refine lv_iconst (v := (0 : Int32)) hx hb dX9_parts_28 (by decide) ?_
      refine lv_istore_n (lv' := [(3, .int (0 : Int32)), (2, .int r7), (0, .ref a_th), (1, .int p_1)]) hx hb dX9_parts_29 rfl hl (by decide) rfl (fun ls hl => ?_)
      refine lv_iconst (v := (0 : Int32)) hx hb dX9_parts_30 (by decide) ?_
      refine lv_istore (lv' := [(4, .int (0 : Int32)), (3, .int (0 : Int32)), (2, .int r7), (0, .ref a_th), (1, .int p_1)]) hx hb dX9_parts_31 hl (by decide) rfl (fun ls hl => ?_)
      have lp33 : ∀ (n33 : Nat) (x9 : Int32) (x10 : Int32) (w11 : (Nat → Int32)) (k33 : Int32 → (Nat → Int32) → Option (Int32 × (Nat → Int32))) (H : Heap) (locs : List Loc) (ls : Array Slot), L_X9_parts_33 v_theQuestion_letters_length v_theQuestion_letters_bytes v_now_known p_1 n_theQuestion_letters_bytes r7 n33 x9 x10 w11 k33 = some o → (∀ (x12 : Int32) (w13 : (Nat → Int32)) (H : Heap) (locs : List Loc) (ls : Array Slot), k33 x12 w13 = some o → va_P (dC, dI) vwCl [oX9 a_th q_theText (.ref a_theQuestion) (.ref a_theCastle) (.ref a_now) q_theActs q_theTold q_foresight q_keptMoments q_isKept q_marchWorlds (.long v_theSeed), oX5 a_theQuestion (.ref a_theQuestion_letters) (.ref a_theQuestion_stack), oX3 a_theQuestion_letters (.ref a_theQuestion_letters_bytes) (.int v_theQuestion_letters_length), aI cI a_theQuestion_letters_bytes n_theQuestion_letters_bytes v_theQuestion_letters_bytes, oX1 a_theCastle (.int v_theCastle_facts) (.int v_theCastle_so) (.int v_theCastle_common) (.int v_theCastle_cases) (.int v_theCastle_firstTrueDay), oX4 a_now (.int v_now_date) (.int v_now_trueDay) (.int v_now_wasAsked) (.int v_now_clothState) (.int v_now_cracks) (.ref a_now_known), aI cI a_now_known 7 v_now_known, aI cI a_theQuestion_stack 16 w13] H → va_S A s.heap H locs → lv_has ls 5 [(3, .int x12)] → W p l e (headSpec wsX9_parts { frames := 4, cells := 0, slots := 0, locals := 95 }).room s m [.ref a_th, .int p_1].toArray below meth c H locs 0 0 Q (F0 m 75 ls [])) → va_P (dC, dI) vwCl [oX9 a_th q_theText (.ref a_theQuestion) (.ref a_theCastle) (.ref a_now) q_theActs q_theTold q_foresight q_keptMoments q_isKept q_marchWorlds (.long v_theSeed), oX5 a_theQuestion (.ref a_theQuestion_letters) (.ref a_theQuestion_stack), oX3 a_theQuestion_letters (.ref a_theQuestion_letters_bytes) (.int v_theQuestion_letters_length), aI cI a_theQuestion_letters_bytes n_theQuestion_letters_bytes v_theQuestion_letters_bytes, oX1 a_theCastle (.int v_theCastle_facts) (.int v_theCastle_so) (.int v_theCastle_common) (.int v_theCastle_cases) (.int v_theCastle_firstTrueDay), oX4 a_now (.int v_now_date) (.int v_now_trueDay) (.int v_now_wasAsked) (.int v_now_clothState) (.int v_now_cracks) (.ref a_now_known), aI cI a_now_known 7 v_now_known, aI cI a_theQuestion_stack 16 w11] H → va_S A s.heap H locs → lv_has ls 5 [(0, .ref a_th), (1, .int p_1), (2, .int r7), (3, .int x9), (4, .int x10)] → W p l e (headSpec wsX9_parts { frames := 4, cells := 0, slots := 0, locals := 95 }).room s m [.ref a_th, .int p_1].toArray below meth c H locs 0 0 Q (F0 m 33 ls []) := by
        intro n33
        induction n33 with
        | zero =>
          intro x9 x10 w11 k33 H locs ls hm
          cases (show (none : Option (Int32 × (Nat → Int32))) = some o from hm)
        | succ n33 ih33 =>
          intro x9 x10 w11 k33 H locs ls hm hk33 hP hS hl
          rw [L_X9_parts_33.eq_2] at hm
          refine lv_iload hx hb dX9_parts_33 (lv_at hl 4 rfl) ?_
          refine lv_bipush (v := (7 : Int32)) hx hb dX9_parts_35 (by decide) ?_
          refine lv_icmp_ge (tgt := 75) hx hb dX9_parts_37 (by decide) (fun c14 => ?_) (fun c14 => ?_)
          · replace hm := ite_t c14 hm
            exact hk33 x9 w11 _ _ _ hm hP hS (lv_sub hl [3] rfl)
          · replace hm := ite_f c14 hm
            refine lv_iload_n hx hb dX9_parts_40 rfl (lv_at hl 3 rfl) ?_
            refine lv_aload_n hx hb dX9_parts_41 rfl (lv_at hl 0 rfl) ?_
            refine va_get (D := (dC, dI)) (ci := 7) (v := .ref a_now) (C := RX9) (T := TX9) (N := 11) hx hb hts iX9 hown hK hP 0 rfl rfl 3 (by decide) f35 (fun _ h9 => h9) rfl dX9_parts_42 ?_
            refine va_getN (D := (dC, dI)) (ci := 4) (v := .ref a_now_known) (C := RX4) (T := TX4) (N := 6) hx hb hts iX4 hown hK hP 5 rfl rfl 5 (by decide) f113 (fun _ h9 => h9) rfl dX9_parts_45 ?_
            refine lv_iload hx hb dX9_parts_48 (lv_at hl 4 rfl) ?_
            obtain ⟨h15, hm⟩ := gd_s hm
            refine va_iald hx hb hK hP 6 0 rfl rfl (inB_s h15) dX9_parts_50 ?_
            refine lv_aload_n hx hb dX9_parts_51 rfl (lv_at hl 0 rfl) ?_
            refine va_get (D := (dC, dI)) (ci := 7) (v := .ref a_theQuestion) (C := RX9) (T := TX9) (N := 11) hx hb hts iX9 hown hK hP 0 rfl rfl 1 (by decide) f21 (fun _ h9 => h9) rfl dX9_parts_52 ?_
            refine lv_iload_n hx hb dX9_parts_55 rfl (lv_at hl 1 rfl) ?_
            refine lv_iload_n hx hb dX9_parts_56 rfl (lv_at hl 2 rfl) ?_
            refine lv_iload hx hb dX9_parts_57 (lv_at hl 4 rfl) ?_
            refine lv_iconst (v := (0 : Int32)) hx hb dX9_parts_59 (by decide) ?_
            obtain ⟨r16, w17, ho18, hm⟩ := bd2_s hm
            refine kb_calli (Rv := r16) (va_runV (As := [.int p_1, .int r7, .int x10, .int (0 : Int32)]) (rest := [.int (v_now_known (Int32.toNatClampNeg x10)), .int x9]) ⟨hx, hb, hml, hown, hts⟩ (c_X5_casesAnswered l dC dI cI cJ cZ cQ t H.size a_theQuestion a_theQuestion_letters a_theQuestion_letters_bytes a_theQuestion_stack n_theQuestion_letters_bytes v_theQuestion_letters_length v_theQuestion_letters_bytes w11 p_1 r7 x10 (0 : Int32) (r16, w17) ho18) (cwV 4 hts gX9_parts_X5_casesAnswered rfl rfl rfl (by decide +kernel) ⟨(Nat.le_of_ble_eq_true rfl), (Nat.le_of_ble_eq_true rfl)⟩) ⟨(kb_pre hK hG hP (kb_D hD rfl) hS hA [1, 2, 3, 7] rfl (by decide)).1, (va_recv hK hP (ci := 5) (q0 := 1) rfl rfl), (kb_pre hK hG hP (kb_D hD rfl) hS hA [1, 2, 3, 7] rfl (by decide)).2⟩ rfl rfl hl.1 rfl (lv_room (Nat.le_of_ble_eq_true rfl)) dX9_parts_60 ⟨Nat.zero_le _, Nat.zero_le _⟩) hP (kb_D hD rfl) hS hA [1, 2, 3, 7] rfl [(false, 0), (true, 0), (true, 1), (true, 2), (false, 4), (false, 5), (false, 6), (true, 3)] (w2 := [oX9 a_th q_theText (.ref a_theQuestion) (.ref a_theCastle) (.ref a_now) q_theActs q_theTold q_foresight q_keptMoments q_isKept q_marchWorlds (.long v_theSeed), oX5 a_theQuestion (.ref a_theQuestion_letters) (.ref a_theQuestion_stack), oX3 a_theQuestion_letters (.ref a_theQuestion_letters_bytes) (.int v_theQuestion_letters_length), aI cI a_theQuestion_letters_bytes n_theQuestion_letters_bytes v_theQuestion_letters_bytes, oX1 a_theCastle (.int v_theCastle_facts) (.int v_theCastle_so) (.int v_theCastle_common) (.int v_theCastle_cases) (.int v_theCastle_firstTrueDay), oX4 a_now (.int v_now_date) (.int v_now_trueDay) (.int v_now_wasAsked) (.int v_now_clothState) (.int v_now_cracks) (.ref a_now_known), aI cI a_now_known 7 v_now_known, aI cI a_theQuestion_stack 16 w17]) rfl (by decide) (fun H locs hP hS => ?_)
            refine lv_iand hx hb dX9_parts_63 ?_
            obtain ⟨r19, ho20, hm⟩ := bd1_s hm
            refine kb_calli (Rv := r19) (va_runS (As := [.int ((v_now_known (Int32.toNatClampNeg x10)) &&& r16)]) (rest := [.int x9]) ⟨hx, hb, hml, hown, hts⟩ (c_J6_bitCount_0f7a4 l dC dI cI cJ cZ cQ t H.size ((v_now_known (Int32.toNatClampNeg x10)) &&& r16) (r19) ho20) (va_cwS 1 hts gX9_parts_J6_bitCount_0f7a4 rfl rfl rfl (by decide +kernel) ⟨(Nat.le_of_ble_eq_true rfl), (Nat.le_of_ble_eq_true rfl)⟩) (kb_pre hK hG hP (kb_D hD rfl) hS hA [] rfl (by decide)) rfl rfl hl.1 rfl (lv_room (Nat.le_of_ble_eq_true rfl)) dX9_parts_64 ⟨Nat.zero_le _, Nat.zero_le _⟩) hP (kb_D hD rfl) hS hA [] rfl [(false, 0), (false, 1), (false, 2), (false, 3), (false, 4), (false, 5), (false, 6), (false, 7)] (w2 := [oX9 a_th q_theText (.ref a_theQuestion) (.ref a_theCastle) (.ref a_now) q_theActs q_theTold q_foresight q_keptMoments q_isKept q_marchWorlds (.long v_theSeed), oX5 a_theQuestion (.ref a_theQuestion_letters) (.ref a_theQuestion_stack), oX3 a_theQuestion_letters (.ref a_theQuestion_letters_bytes) (.int v_theQuestion_letters_length), aI cI a_theQuestion_letters_bytes n_theQuestion_letters_bytes v_theQuestion_letters_bytes, oX1 a_theCastle (.int v_theCastle_facts) (.int v_theCastle_so) (.int v_theCastle_common) (.int v_theCastle_cases) (.int v_theCastle_firstTrueDay), oX4 a_now (.int v_now_date) (.int v_now_trueDay) (.int v_now_wasAsked) (.int v_now_clothState) (.int v_now_cracks) (.ref a_now_known), aI cI a_now_known 7 v_now_known, aI cI a_theQuestion_stack 16 w17]) rfl (by decide) (fun H locs hP hS => ?_)
            refine lv_iadd hx hb dX9_parts_67 ?_
            refine lv_topi (fun x21 ex21 => ?_)
            replace hm := nm_t ex21 hm
            refine lv_istore_n (lv' := [(3, .int x21), (0, .ref a_th), (1, .int p_1), (2, .int r7), (4, .int x10)]) hx hb dX9_parts_68 rfl hl (by decide) rfl (fun ls hl => ?_)
            obtain ⟨x22, ex22⟩ : ∃ y : Int32, y = x10 + (1 : Int32) := ⟨_, rfl⟩
            replace hm := nm_t ex22 hm
            refine lv_iinc (v := x22) (lv' := [(4, .int x22), (3, .int x21), (0, .ref a_th), (1, .int p_1), (2, .int r7)]) hx hb dX9_parts_69 hl (k := 4) rfl (by rw [ex22]; rfl) (by decide) rfl (fun ls hl => ?_)
            refine lv_goto (tgt := 33) hx hb dX9_parts_72 (by decide) ?_
            exact ih33 x21 x22 w17 k33 _ _ _ hm hk33 hP hS (lv_sub hl [2, 3, 4, 1, 0] rfl)
      refine lp33 1024 (0 : Int32) (0 : Int32) v_theQuestion_stack _ _ _ _ hm (fun x12 w13 H locs ls hm hP hS hl => ?_) hP hS (lv_sub hl [3, 4, 2, 1, 0] rfl)
      refine lv_iload_n hx hb dX9_parts_75 rfl (lv_at hl 0 rfl) ?_
      obtain rfl := Option.some.inj hm
      subst hQ
      exact W.iret hx hb hr (fun t ht hW => ⟨⟨_, (), rfl, rfl, kb_h hP ht⟩, hS.F ht⟩) hS.2.2 dX9_parts_76
    · replace hm := ite_f c6 hm
      refine lv_bipush (v := (-3 : Int32)) hx hb dX9_parts_17 (by decide) ?_
      obtain rfl := Option.some.inj hm
      subst hQ
      exact W.iret hx hb hr (fun t ht hW => ⟨⟨_, (), rfl, rfl, kb_h hP ht⟩, hS.F ht⟩) hS.2.2 dX9_parts_19
  · replace hm := ite_t c3 hm
    refine lv_bipush (v := (-2 : Int32)) hx hb dX9_parts_7 (by decide) ?_
    obtain rfl := Option.some.inj hm
    subst hQ
    exact W.iret hx hb hr (fun t ht hW => ⟨⟨_, (), rfl, rfl, kb_h hP ht⟩, hS.F ht⟩) hS.2.2 dX9_parts_9
