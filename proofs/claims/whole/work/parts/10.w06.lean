set_option maxHeartbeats 4000000 in
set_option maxRecDepth 100000 in
theorem c_X9_again (l : Launch) (dC : Nat → ClassId) (dI : Nat → Nat → Nat) (cI cJ cZ cQ : ClassId) (t sz : Nat) (a_th : Nat) (a_isKept : Nat) (a_now : Nat) (a_keptMoments : Nat) (a_now_known : Nat) (a_theActs : Nat) (q_theText : Value) (q_theQuestion : Value) (q_theCastle : Value) (q_theTold : Value) (q_foresight : Value) (q_marchWorlds : Value) (q_theActs_moments : Value) (q_theActs_seeds : Value) (v_theSeed : Int64) (v_isKept : (Nat → Int32)) (v_now_date : Int32) (v_now_trueDay : Int32) (v_now_wasAsked : Int32) (v_now_clothState : Int32) (v_now_cracks : Int32) (v_keptMoments : (Nat → Int32)) (v_now_known : (Nat → Int32)) (v_theActs_next : Int32) (v_theActs_count : Int32) (p_1 : Int32) (o : Int32 × Int32 × Int32 × Int32 × Int32 × Int32 × (Nat → Int32) × Int32) (hm : m_X9_again p_1 v_isKept v_now_date v_now_trueDay v_now_wasAsked v_now_clothState v_now_cracks v_keptMoments v_now_known v_theActs_count = some o) : Met l yX9_again wsX9_again { frames := 2, cells := 0, slots := 0, locals := 123 } (va_Pc [.ref a_th, .int p_1] (cP (dC, dI) (kT cI cJ cZ cQ) t sz [oX9 a_th q_theText q_theQuestion q_theCastle (.ref a_now) (.ref a_theActs) q_theTold q_foresight (.ref a_keptMoments) (.ref a_isKept) q_marchWorlds (.long v_theSeed), aI cZ a_isKept 2 v_isKept, oX4 a_now (.int v_now_date) (.int v_now_trueDay) (.int v_now_wasAsked) (.int v_now_clothState) (.int v_now_cracks) (.ref a_now_known), aI cI a_keptMoments 24 v_keptMoments, aI cI a_now_known 7 v_now_known, oX0 a_theActs q_theActs_moments q_theActs_seeds (.int v_theActs_next) (.int v_theActs_count)])) (cQi (dC, dI) (va_A [oX9 a_th q_theText q_theQuestion q_theCastle (.ref a_now) (.ref a_theActs) q_theTold q_foresight (.ref a_keptMoments) (.ref a_isKept) q_marchWorlds (.long v_theSeed), aI cZ a_isKept 2 v_isKept, oX4 a_now (.int v_now_date) (.int v_now_trueDay) (.int v_now_wasAsked) (.int v_now_clothState) (.int v_now_cracks) (.ref a_now_known), aI cI a_keptMoments 24 v_keptMoments, aI cI a_now_known 7 v_now_known, oX0 a_theActs q_theActs_moments q_theActs_seeds (.int v_theActs_next) (.int v_theActs_count)] sz) o.1 [oX9 a_th q_theText q_theQuestion q_theCastle (.ref a_now) (.ref a_theActs) q_theTold q_foresight (.ref a_keptMoments) (.ref a_isKept) q_marchWorlds (.long v_theSeed), aI cZ a_isKept 2 v_isKept, oX4 a_now (.int (o.2.1)) (.int (o.2.2.1)) (.int (o.2.2.2.1)) (.int (o.2.2.2.2.1)) (.int (o.2.2.2.2.2.1)) (.ref a_now_known), aI cI a_keptMoments 24 v_keptMoments, aI cI a_now_known 7 (o.2.2.2.2.2.2.1), oX0 a_theActs q_theActs_moments q_theActs_seeds (.int v_theActs_next) (.int (o.2.2.2.2.2.2.2))]) 0 0 (va_A [oX9 a_th q_theText q_theQuestion q_theCastle (.ref a_now) (.ref a_theActs) q_theTold q_foresight (.ref a_keptMoments) (.ref a_isKept) q_marchWorlds (.long v_theSeed), aI cZ a_isKept 2 v_isKept, oX4 a_now (.int v_now_date) (.int v_now_trueDay) (.int v_now_wasAsked) (.int v_now_clothState) (.int v_now_cracks) (.ref a_now_known), aI cI a_keptMoments 24 v_keptMoments, aI cI a_now_known 7 v_now_known, oX0 a_theActs q_theActs_moments q_theActs_seeds (.int v_theActs_next) (.int v_theActs_count)] sz) := by
  refine Met.ofW (cc := cX9_again) (maxL := 2) (ret := (some .int)) (by decide) rfl ?_
  intro p e s m args below meth c s₁ B hml hv
  obtain ⟨rfl, hsz, hP, hK, hD0, hG⟩ := hv
  have hx := B.exec
  have hb := B.bytes
  have hr := B.returns
  have hts := atoms_spec (ws := wsX9_again) B.pre
  have hown : s.vm.findClass RX9 = some m.cls := findClass_of_methodNamed B.named
  have hlocks := B.notSynchronized
  subst hsz
  have hD := hD0.self (sz := s.heap.size)
  generalize hAe : va_A [oX9 a_th q_theText q_theQuestion q_theCastle (.ref a_now) (.ref a_theActs) q_theTold q_foresight (.ref a_keptMoments) (.ref a_isKept) q_marchWorlds (.long v_theSeed), aI cZ a_isKept 2 v_isKept, oX4 a_now (.int v_now_date) (.int v_now_trueDay) (.int v_now_wasAsked) (.int v_now_clothState) (.int v_now_cracks) (.ref a_now_known), aI cI a_keptMoments 24 v_keptMoments, aI cI a_now_known 7 v_now_known, oX0 a_theActs q_theActs_moments q_theActs_seeds (.int v_theActs_next) (.int v_theActs_count)] s.heap.size = A at hD hG ⊢
  have hA : ∀ q : Nat, s.heap.size ≤ q → A q := fun q h => by rw [← hAe]; exact Or.inr h
  have hS : va_S A s.heap s.heap [] := va_S.rf
  have hl := lv_entry ([.ref a_th, .int p_1]) (n := 2) (Nat.le_of_ble_eq_true rfl)
  rw [lg_entry_eq]
  generalize (lg_sl ([.ref a_th, .int p_1]) ++ List.replicate (2 - (lg_sl ([.ref a_th, .int p_1])).length) Slot.unset).toArray = ls at hl ⊢
  have hl : lv_has ls 2 [(0, .ref a_th), (1, .int p_1)] := hl
  have iX9 : ∀ w ∈ wsX90, w ∈ wsX9_again := fun _ h => List.mem_cons_of_mem _ (List.mem_append_left _ (List.mem_append_left _ (List.mem_append_right _ h)))
  have iX4 : ∀ w ∈ wsX40, w ∈ wsX9_again := fun _ h => List.mem_cons_of_mem _ (List.mem_append_left _ (List.mem_append_right _ h))
  have iX0 : ∀ w ∈ wsX00, w ∈ wsX9_again := fun _ h => List.mem_cons_of_mem _ (List.mem_append_right _ h)
  have f64 := hts (.fieldLink RX9 64 "TrueOnceWeek" "isKept" "[Z") (by decide +kernel)
  have f35 := hts (.fieldLink RX9 35 "TrueOnceWeek" "now" "LTrueOnceWeek$Moment;") (by decide +kernel)
  have f60 := hts (.fieldLink RX9 60 "TrueOnceWeek" "keptMoments" "[I") (by decide +kernel)
  have f42 := hts (.fieldLink RX9 42 "TrueOnceWeek" "theActs" "LTrueOnceWeek$Acts;") (by decide +kernel)
  have f113 := va_Nw.use (A := [.ref a_th, .int p_1].toArray) (w := .fieldLinkNest RX9 113 "TrueOnceWeek$Moment" "known" "[I" "TrueOnceWeek") rfl (hG.1 (RX9, 113, "TrueOnceWeek$Moment", "known", "[I") (by decide +kernel))
  refine kb_gen (fun Q hQ => ?_)
  unfold m_X9_again at hm
  refine lv_iload_n hx hb dX9_again_0 rfl (lv_at hl 1 rfl) ?_
  obtain ⟨r1, ho2, hm⟩ := bd1_s hm
  refine kb_calli (Rv := r1) (va_runS (As := [.int p_1]) (rest := []) ⟨hx, hb, hml, hown, hts⟩ (c_X9_isSlot l dC dI cI cJ cZ cQ t s.heap.size p_1 (r1) ho2) (va_cwS 1 hts gX9_again_X9_isSlot rfl rfl rfl (by decide +kernel) ⟨(Nat.le_of_ble_eq_true rfl), (Nat.le_of_ble_eq_true rfl)⟩) (kb_pre hK hG hP (kb_D hD rfl) hS hA [] rfl (by decide)) rfl rfl hl.1 rfl (lv_room (Nat.le_of_ble_eq_true rfl)) dX9_again_1 ⟨Nat.zero_le _, Nat.zero_le _⟩) hP (kb_D hD rfl) hS hA [] rfl [(false, 0), (false, 1), (false, 2), (false, 3), (false, 4), (false, 5)] (w2 := [oX9 a_th q_theText q_theQuestion q_theCastle (.ref a_now) (.ref a_theActs) q_theTold q_foresight (.ref a_keptMoments) (.ref a_isKept) q_marchWorlds (.long v_theSeed), aI cZ a_isKept 2 v_isKept, oX4 a_now (.int v_now_date) (.int v_now_trueDay) (.int v_now_wasAsked) (.int v_now_clothState) (.int v_now_cracks) (.ref a_now_known), aI cI a_keptMoments 24 v_keptMoments, aI cI a_now_known 7 v_now_known, oX0 a_theActs q_theActs_moments q_theActs_seeds (.int v_theActs_next) (.int v_theActs_count)]) rfl (by decide) (fun H locs hP hS => ?_)
  refine lv_if_ne (tgt := 9) hx hb dX9_again_4 (by decide) (fun c3 => ?_) (fun c3 => ?_)
  · replace hm := ite_f c3 hm
    refine lv_aload_n hx hb dX9_again_9 rfl (lv_at hl 0 rfl) ?_
    refine va_get (D := (dC, dI)) (ci := 7) (v := .ref a_isKept) (C := RX9) (T := TX9) (N := 11) hx hb hts iX9 hown hK hP 0 rfl rfl 8 (by decide) f64 (fun _ h9 => h9) rfl dX9_again_10 ?_
    refine lv_iload_n hx hb dX9_again_13 rfl (lv_at hl 1 rfl) ?_
    obtain ⟨h4, hm⟩ := gd_s hm
    refine va_zald hx hb hK hP 1 2 rfl rfl (inB_s h4) dX9_again_14 ?_
    refine lv_if_ne (tgt := 21) hx hb dX9_again_15 (by decide) (fun c5 => ?_) (fun c5 => ?_)
    · replace hm := ite_f c5 hm
      refine lv_aload_n hx hb dX9_again_21 rfl (lv_at hl 0 rfl) ?_
      refine va_get (D := (dC, dI)) (ci := 7) (v := .ref a_now) (C := RX9) (T := TX9) (N := 11) hx hb hts iX9 hown hK hP 0 rfl rfl 3 (by decide) f35 (fun _ h9 => h9) rfl dX9_again_22 ?_
      refine lv_aload_n hx hb dX9_again_25 rfl (lv_at hl 0 rfl) ?_
      refine va_get (D := (dC, dI)) (ci := 7) (v := .ref a_keptMoments) (C := RX9) (T := TX9) (N := 11) hx hb hts iX9 hown hK hP 0 rfl rfl 7 (by decide) f60 (fun _ h9 => h9) rfl dX9_again_26 ?_
      refine lv_iload_n hx hb dX9_again_29 rfl (lv_at hl 1 rfl) ?_
      obtain ⟨w6, w7, w8, w9, w10, w11, ho12, hm⟩ := bd6_s hm
      refine kb_callv (va_runV (As := [.ref a_keptMoments, .int p_1]) (rest := []) ⟨hx, hb, hml, hown, hts⟩ (c_X4_loadFrom l dC dI cI cJ cZ cQ t H.size a_now a_keptMoments a_now_known 24 v_now_date v_now_trueDay v_now_wasAsked v_now_clothState v_now_cracks v_keptMoments v_now_known p_1 (w6, w7, w8, w9, w10, w11) ho12) (cwV 2 hts gX9_again_X4_loadFrom rfl rfl rfl (by decide +kernel) ⟨(Nat.le_of_ble_eq_true rfl), (Nat.le_of_ble_eq_true rfl)⟩) ⟨(kb_pre hK hG hP (kb_D hD rfl) hS hA [2, 3, 4] rfl (by decide)).1, (va_recv hK hP (ci := 4) (q0 := 2) rfl rfl), (kb_pre hK hG hP (kb_D hD rfl) hS hA [2, 3, 4] rfl (by decide)).2⟩ rfl rfl hl.1 rfl (lv_room (Nat.le_of_ble_eq_true rfl)) dX9_again_30 ⟨Nat.zero_le _, Nat.zero_le _⟩) hP (kb_D hD rfl) hS hA [2, 3, 4] rfl [(false, 0), (false, 1), (true, 0), (true, 1), (true, 2), (false, 5)] (w2 := [oX9 a_th q_theText q_theQuestion q_theCastle (.ref a_now) (.ref a_theActs) q_theTold q_foresight (.ref a_keptMoments) (.ref a_isKept) q_marchWorlds (.long v_theSeed), aI cZ a_isKept 2 v_isKept, oX4 a_now (.int w6) (.int w7) (.int w8) (.int w9) (.int w10) (.ref a_now_known), aI cI a_keptMoments 24 v_keptMoments, aI cI a_now_known 7 w11, oX0 a_theActs q_theActs_moments q_theActs_seeds (.int v_theActs_next) (.int v_theActs_count)]) rfl (by decide) (fun H locs hP hS => ?_)
      refine lv_aload_n hx hb dX9_again_33 rfl (lv_at hl 0 rfl) ?_
      refine va_get (D := (dC, dI)) (ci := 7) (v := .ref a_theActs) (C := RX9) (T := TX9) (N := 11) hx hb hts iX9 hown hK hP 0 rfl rfl 4 (by decide) f42 (fun _ h9 => h9) rfl dX9_again_34 ?_
      obtain ⟨w13, ho14, hm⟩ := bd1_s hm
      refine kb_callv (va_runV (As := []) (rest := []) ⟨hx, hb, hml, hown, hts⟩ (c_X0_forget l dC dI cI cJ cZ cQ t H.size a_theActs q_theActs_moments q_theActs_seeds v_theActs_next v_theActs_count (w13) ho14) (cwV 0 hts gX9_again_X0_forget rfl rfl rfl (by decide +kernel) ⟨(Nat.le_of_ble_eq_true rfl), (Nat.le_of_ble_eq_true rfl)⟩) ⟨(kb_pre hK hG hP (kb_D hD rfl) hS hA [5] rfl (by decide)).1, (va_recv hK hP (ci := 0) (q0 := 5) rfl rfl), (kb_pre hK hG hP (kb_D hD rfl) hS hA [5] rfl (by decide)).2⟩ rfl rfl hl.1 rfl (lv_room (Nat.le_of_ble_eq_true rfl)) dX9_again_37 ⟨Nat.zero_le _, Nat.zero_le _⟩) hP (kb_D hD rfl) hS hA [5] rfl [(false, 0), (false, 1), (false, 2), (false, 3), (false, 4), (true, 0)] (w2 := [oX9 a_th q_theText q_theQuestion q_theCastle (.ref a_now) (.ref a_theActs) q_theTold q_foresight (.ref a_keptMoments) (.ref a_isKept) q_marchWorlds (.long v_theSeed), aI cZ a_isKept 2 v_isKept, oX4 a_now (.int w6) (.int w7) (.int w8) (.int w9) (.int w10) (.ref a_now_known), aI cI a_keptMoments 24 v_keptMoments, aI cI a_now_known 7 w11, oX0 a_theActs q_theActs_moments q_theActs_seeds (.int v_theActs_next) (.int w13)]) rfl (by decide) (fun H locs hP hS => ?_)
      refine lv_aload_n hx hb dX9_again_40 rfl (lv_at hl 0 rfl) ?_
      refine va_get (D := (dC, dI)) (ci := 7) (v := .ref a_now) (C := RX9) (T := TX9) (N := 11) hx hb hts iX9 hown hK hP 0 rfl rfl 3 (by decide) f35 (fun _ h9 => h9) rfl dX9_again_41 ?_
      refine va_getN (D := (dC, dI)) (ci := 4) (v := .ref a_now_known) (C := RX4) (T := TX4) (N := 6) hx hb hts iX4 hown hK hP 2 rfl rfl 5 (by decide) f113 (fun _ h9 => h9) rfl dX9_again_44 ?_
      obtain ⟨r15, ho16, hm⟩ := bd1_s hm
      refine kb_calli (Rv := r15) (va_runS (As := [.ref a_now_known]) (rest := []) ⟨hx, hb, hml, hown, hts⟩ (c_X8_count l dC dI cI cJ cZ cQ t H.size a_now_known 7 w11 (r15) ho16) (va_cwS 1 hts gX9_again_X8_count rfl rfl rfl (by decide +kernel) ⟨(Nat.le_of_ble_eq_true rfl), (Nat.le_of_ble_eq_true rfl)⟩) (kb_pre hK hG hP (kb_D hD rfl) hS hA [4] rfl (by decide)) rfl rfl hl.1 rfl (lv_room (Nat.le_of_ble_eq_true rfl)) dX9_again_47 ⟨Nat.zero_le _, Nat.zero_le _⟩) hP (kb_D hD rfl) hS hA [4] rfl [(false, 0), (false, 1), (false, 2), (false, 3), (true, 0), (false, 5)] (w2 := [oX9 a_th q_theText q_theQuestion q_theCastle (.ref a_now) (.ref a_theActs) q_theTold q_foresight (.ref a_keptMoments) (.ref a_isKept) q_marchWorlds (.long v_theSeed), aI cZ a_isKept 2 v_isKept, oX4 a_now (.int w6) (.int w7) (.int w8) (.int w9) (.int w10) (.ref a_now_known), aI cI a_keptMoments 24 v_keptMoments, aI cI a_now_known 7 w11, oX0 a_theActs q_theActs_moments q_theActs_seeds (.int v_theActs_next) (.int w13)]) rfl (by decide) (fun H locs hP hS => ?_)
      obtain rfl := Option.some.inj hm
      subst hQ
      exact W.iret hx hb hr (fun t ht hW => ⟨⟨_, (), rfl, rfl, kb_h hP ht⟩, hS.F ht⟩) hS.2.2 dX9_again_50
    · replace hm := ite_t c5 hm
      refine lv_bipush (v := (-3 : Int32)) hx hb dX9_again_18 (by decide) ?_
      obtain rfl := Option.some.inj hm
      subst hQ
      exact W.iret hx hb hr (fun t ht hW => ⟨⟨_, (), rfl, rfl, kb_h hP ht⟩, hS.F ht⟩) hS.2.2 dX9_again_20
  · replace hm := ite_t c3 hm
    refine lv_iconst (v := (-1 : Int32)) hx hb dX9_again_7 (by decide) ?_
    obtain rfl := Option.some.inj hm
    subst hQ
    exact W.iret hx hb hr (fun t ht hW => ⟨⟨_, (), rfl, rfl, kb_h hP ht⟩, hS.F ht⟩) hS.2.2 dX9_again_8
set_option maxHeartbeats 4000000 in
set_option maxRecDepth 100000 in
theorem c_X10_in (l : Launch) (dC : Nat → ClassId) (dI : Nat → Nat → Nat) (cI cJ cZ cQ : ClassId) (t sz : Nat) (p_0 : Int64) (p_1 : Int64) (p_2 : Int64) (o : Int32) (hm : m_X10_in p_0 p_1 p_2 = some o) : Met l yX10_in wsX10_in { frames := 0, cells := 0, slots := 0, locals := 0 } (va_Pc [.long p_0, .long p_1, .long p_2] (cP (dC, dI) (kT cI cJ cZ cQ) t sz [])) (cQi (dC, dI) (va_A [] sz) o []) 0 0 (va_A [] sz) := by
  refine Met.ofW (cc := cX10_in) (maxL := 6) (ret := (some .boolean)) (by decide) rfl ?_
  intro p e s m args below meth c s₁ B hml hv
  obtain ⟨rfl, hsz, hP, hK, hD0, hG⟩ := hv
  have hx := B.exec
  have hb := B.bytes
  have hr := B.returns
  have hts := atoms_spec (ws := wsX10_in) B.pre
  have hown : s.vm.findClass RX10 = some m.cls := findClass_of_methodNamed B.named
  have hlocks := B.notSynchronized
  subst hsz
  have hD := hD0.self (sz := s.heap.size)
  generalize hAe : va_A [] s.heap.size = A at hD hG ⊢
  have hA : ∀ q : Nat, s.heap.size ≤ q → A q := fun q h => by rw [← hAe]; exact Or.inr h
  have hS : va_S A s.heap s.heap [] := va_S.rf
  have hl := lv_entry ([.long p_0, .long p_1, .long p_2]) (n := 6) (Nat.le_of_ble_eq_true rfl)
  rw [lg_entry_eq]
  generalize (lg_sl ([.long p_0, .long p_1, .long p_2]) ++ List.replicate (6 - (lg_sl ([.long p_0, .long p_1, .long p_2])).length) Slot.unset).toArray = ls at hl ⊢
  have hl : lv_has ls 6 [(0, .long p_0), (2, .long p_1), (4, .long p_2)] := hl
  refine kb_gen (fun Q hQ => ?_)
  unfold m_X10_in at hm
  refine lv_lload_n hx hb dX10_in_0 rfl (lv_at hl 0 rfl) ?_
  refine lv_lload_n hx hb dX10_in_1 rfl (lv_at hl 1 rfl) ?_
  refine W.lcmp hx hb dX10_in_2 ?_
  obtain ⟨k17, ek17, hm⟩ := nm_s hm
  have J17 : ∀ (H : Heap) (locs : List Loc) (ls : Array Slot), k17 = some o → va_P (dC, dI) vwCl [] H → va_S A s.heap H locs → lv_has ls 6 [] → W p l e (headSpec wsX10_in { frames := 0, cells := 0, slots := 0, locals := 0 }).room s m [.long p_0, .long p_1, .long p_2].toArray below meth c H locs 0 0 Q (F0 m 17 ls []) := by
    intro  H locs ls hm hP hS hl
    rw [ek17] at hm
    refine lv_iconst (v := (0 : Int32)) hx hb dX10_in_17 (by decide) ?_
    obtain rfl := Option.some.inj hm
    subst hQ
    exact W.zret hx hb hr rfl (fun t ht hW => ⟨⟨_, (), rfl, rfl, kb_h hP ht⟩, hS.F ht⟩) hS.2.2 dX10_in_18
  refine lv_if_lt (tgt := 17) hx hb dX10_in_3 (by decide) (fun c1 => ?_) (fun c1 => ?_)
  · replace hm := ite_t c1 hm
    exact J17  _ _ _ hm hP hS (lv_sub hl [] rfl)
  · replace hm := ite_f c1 hm
    refine lv_lload_n hx hb dX10_in_6 rfl (lv_at hl 0 rfl) ?_
    refine lv_lload hx hb dX10_in_7 (lv_at hl 2 rfl) ?_
    refine W.lcmp hx hb dX10_in_9 ?_
    refine lv_if_gt (tgt := 17) hx hb dX10_in_10 (by decide) (fun c2 => ?_) (fun c2 => ?_)
    · replace hm := ite_t c2 hm
      exact J17  _ _ _ hm hP hS (lv_sub hl [] rfl)
    · replace hm := ite_f c2 hm
      refine lv_iconst (v := (1 : Int32)) hx hb dX10_in_13 (by decide) ?_
      refine lv_goto (tgt := 18) hx hb dX10_in_14 (by decide) ?_
      obtain rfl := Option.some.inj hm
      subst hQ
      exact W.zret hx hb hr rfl (fun t ht hW => ⟨⟨_, (), rfl, rfl, kb_h hP ht⟩, hS.F ht⟩) hS.2.2 dX10_in_18
set_option maxHeartbeats 4000000 in
set_option maxRecDepth 100000 in
theorem c_X10_write (l : Launch) (dC : Nat → ClassId) (dI : Nat → Nat → Nat) (cI cJ cZ cQ : ClassId) (t sz : Nat) (a_th : Nat) (a_text : Nat) (q_question : Value) (q_page : Value) (q_book : Value) (q_bookSeed : Value) (q_kept : Value) (q_isKept : Value) (q_toldSimple : Value) (q_toldDay : Value) (q_toldYes : Value) (q_yesOf : Value) (q_noOf : Value) (q_factOf : Value) (q_stack : Value) (q_one : Value) (q_two : Value) (q_three : Value) (v_thrown : Int32) (v_textSize : Int32) (v_place : Int32) (v_questionSize : Int32) (v_facts : Int32) (v_isSo : Int32) (v_common : Int32) (v_readFacts : Int32) (v_readSo : Int32) (v_readCommon : Int32) (v_readDay : Int32) (v_seed : Int64) (v_acts : Int32) (v_told : Int32) (v_text : (Nat → Int32)) (p_1 : Int32) (o : Int32 × Int32 × Int32 × (Nat → Int32)) (hm : m_X10_write p_1 v_thrown v_textSize v_text = some o) : Met l yX10_write wsX10_write { frames := 1, cells := 0, slots := 0, locals := 25 } (va_Pc [.ref a_th, .int p_1] (cP (dC, dI) (kT cI cJ cZ cQ) t sz [oX10 a_th (.int v_thrown) (.ref a_text) (.int v_textSize) (.int v_place) q_question (.int v_questionSize) (.int v_facts) (.int v_isSo) (.int v_common) (.int v_readFacts) (.int v_readSo) (.int v_readCommon) (.int v_readDay) q_page (.long v_seed) q_book q_bookSeed (.int v_acts) q_kept q_isKept (.int v_told) q_toldSimple q_toldDay q_toldYes q_yesOf q_noOf q_factOf q_stack q_one q_two q_three, aI cI a_text 24 v_text])) (cQi (dC, dI) (va_A [oX10 a_th (.int v_thrown) (.ref a_text) (.int v_textSize) (.int v_place) q_question (.int v_questionSize) (.int v_facts) (.int v_isSo) (.int v_common) (.int v_readFacts) (.int v_readSo) (.int v_readCommon) (.int v_readDay) q_page (.long v_seed) q_book q_bookSeed (.int v_acts) q_kept q_isKept (.int v_told) q_toldSimple q_toldDay q_toldYes q_yesOf q_noOf q_factOf q_stack q_one q_two q_three, aI cI a_text 24 v_text] sz) o.1 [oX10 a_th (.int (o.2.1)) (.ref a_text) (.int (o.2.2.1)) (.int v_place) q_question (.int v_questionSize) (.int v_facts) (.int v_isSo) (.int v_common) (.int v_readFacts) (.int v_readSo) (.int v_readCommon) (.int v_readDay) q_page (.long v_seed) q_book q_bookSeed (.int v_acts) q_kept q_isKept (.int v_told) q_toldSimple q_toldDay q_toldYes q_yesOf q_noOf q_factOf q_stack q_one q_two q_three, aI cI a_text 24 (o.2.2.2)]) 0 0 (va_A [oX10 a_th (.int v_thrown) (.ref a_text) (.int v_textSize) (.int v_place) q_question (.int v_questionSize) (.int v_facts) (.int v_isSo) (.int v_common) (.int v_readFacts) (.int v_readSo) (.int v_readCommon) (.int v_readDay) q_page (.long v_seed) q_book q_bookSeed (.int v_acts) q_kept q_isKept (.int v_told) q_toldSimple q_toldDay q_toldYes q_yesOf q_noOf q_factOf q_stack q_one q_two q_three, aI cI a_text 24 v_text] sz) := by
  refine Met.ofW (cc := cX10_write) (maxL := 2) (ret := (some .int)) (by decide) rfl ?_
  intro p e s m args below meth c s₁ B hml hv
  obtain ⟨rfl, hsz, hP, hK, hD0, hG⟩ := hv
  have hx := B.exec
  have hb := B.bytes
  have hr := B.returns
  have hts := atoms_spec (ws := wsX10_write) B.pre
  have hown : s.vm.findClass RX10 = some m.cls := findClass_of_methodNamed B.named
  have hlocks := B.notSynchronized
  subst hsz
  have hD := hD0.self (sz := s.heap.size)
  generalize hAe : va_A [oX10 a_th (.int v_thrown) (.ref a_text) (.int v_textSize) (.int v_place) q_question (.int v_questionSize) (.int v_facts) (.int v_isSo) (.int v_common) (.int v_readFacts) (.int v_readSo) (.int v_readCommon) (.int v_readDay) q_page (.long v_seed) q_book q_bookSeed (.int v_acts) q_kept q_isKept (.int v_told) q_toldSimple q_toldDay q_toldYes q_yesOf q_noOf q_factOf q_stack q_one q_two q_three, aI cI a_text 24 v_text] s.heap.size = A at hD hG ⊢
  have hA : ∀ q : Nat, s.heap.size ≤ q → A q := fun q h => by rw [← hAe]; exact Or.inr h
  have hS : va_S A s.heap s.heap [] := va_S.rf
  have hl := lv_entry ([.ref a_th, .int p_1]) (n := 2) (Nat.le_of_ble_eq_true rfl)
  rw [lg_entry_eq]
  generalize (lg_sl ([.ref a_th, .int p_1]) ++ List.replicate (2 - (lg_sl ([.ref a_th, .int p_1])).length) Slot.unset).toArray = ls at hl ⊢
  have hl : lv_has ls 2 [(0, .ref a_th), (1, .int p_1)] := hl
  have iX10 : ∀ w ∈ wsX100, w ∈ wsX10_write := fun _ h => List.mem_cons_of_mem _ (List.mem_append_right _ h)
  have f66 := hts (.fieldLink RX10 66 "TrueOnceWeekModel" "thrown" "I") (by decide +kernel)
  have cl70 := hts (.constantLong RX10 70 (255 : Int64)) (by decide +kernel)
  have f76 := hts (.fieldLink RX10 76 "TrueOnceWeekModel" "textSize" "I") (by decide +kernel)
  have f7 := hts (.fieldLink RX10 7 "TrueOnceWeekModel" "text" "[I") (by decide +kernel)
  refine kb_gen (fun Q hQ => ?_)
  unfold m_X10_write at hm
  refine lv_aload_n hx hb dX10_write_0 rfl (lv_at hl 0 rfl) ?_
  refine lv_iconst (v := (0 : Int32)) hx hb dX10_write_1 (by decide) ?_
  refine va_put (D := (dC, dI)) (ci := 8) (v := .int (0 : Int32)) (ty := .int) (C := RX10) (T := TX10) (N := 31) hx hb hts iX10 tyX10 tyX10_ok nmX10 hown hK hP (kb_D hD rfl) hS 0 rfl rfl 0 (by decide) f66 (fun _ h9 => h9) rfl (by decide +kernel) rfl rfl (Nat.le_of_ble_eq_true rfl) dX10_write_2 (fun H locs hP _ hS => ?_)
  have hP : va_P (dC, dI) vwCl [oX10 a_th (.int (0 : Int32)) (.ref a_text) (.int v_textSize) (.int v_place) q_question (.int v_questionSize) (.int v_facts) (.int v_isSo) (.int v_common) (.int v_readFacts) (.int v_readSo) (.int v_readCommon) (.int v_readDay) q_page (.long v_seed) q_book q_bookSeed (.int v_acts) q_kept q_isKept (.int v_told) q_toldSimple q_toldDay q_toldYes q_yesOf q_noOf q_factOf q_stack q_one q_two q_three, aI cI a_text 24 v_text] H := hP
  refine lv_iload_n hx hb dX10_write_5 rfl (lv_at hl 1 rfl) ?_
  refine lv_i2l (v := (Int32.toInt64 p_1)) hx hb dX10_write_6 rfl ?_
  refine lv_lconst (v := (0 : Int64)) hx hb dX10_write_7 (by decide) ?_
  refine lv_ldc2 (v := (255 : Int64)) hx hb hown cl70 dX10_write_8 ?_
  obtain ⟨r1, ho2, hm⟩ := bd1_s hm
  refine kb_calli (Rv := r1) (va_runS (As := [.long (Int32.toInt64 p_1), .long (0 : Int64), .long (255 : Int64)]) (rest := []) ⟨hx, hb, hml, hown, hts⟩ (c_X10_in l dC dI cI cJ cZ cQ t H.size (Int32.toInt64 p_1) (0 : Int64) (255 : Int64) (r1) ho2) (va_cwS 3 hts gX10_write_X10_in rfl rfl rfl (by decide +kernel) ⟨(Nat.le_of_ble_eq_true rfl), (Nat.le_of_ble_eq_true rfl)⟩) (kb_pre hK hG hP (kb_D hD rfl) hS hA [] rfl (by decide)) rfl rfl hl.1 rfl (lv_room (Nat.le_of_ble_eq_true rfl)) dX10_write_11 ⟨Nat.zero_le _, Nat.zero_le _⟩) hP (kb_D hD rfl) hS hA [] rfl [(false, 0), (false, 1)] (w2 := [oX10 a_th (.int (0 : Int32)) (.ref a_text) (.int v_textSize) (.int v_place) q_question (.int v_questionSize) (.int v_facts) (.int v_isSo) (.int v_common) (.int v_readFacts) (.int v_readSo) (.int v_readCommon) (.int v_readDay) q_page (.long v_seed) q_book q_bookSeed (.int v_acts) q_kept q_isKept (.int v_told) q_toldSimple q_toldDay q_toldYes q_yesOf q_noOf q_factOf q_stack q_one q_two q_three, aI cI a_text 24 v_text]) rfl (by decide) (fun H locs hP hS => ?_)
  refine lv_if_ne (tgt := 20) hx hb dX10_write_14 (by decide) (fun c3 => ?_) (fun c3 => ?_)
  · replace hm := ite_f c3 hm
    refine lv_aload_n hx hb dX10_write_20 rfl (lv_at hl 0 rfl) ?_
    refine va_get (D := (dC, dI)) (ci := 8) (v := .int v_textSize) (C := RX10) (T := TX10) (N := 31) hx hb hts iX10 hown hK hP 0 rfl rfl 2 (by decide) f76 (fun _ h9 => h9) rfl dX10_write_21 ?_
    refine lv_bipush (v := (24 : Int32)) hx hb dX10_write_24 (by decide) ?_
    refine lv_icmp_ne (tgt := 32) hx hb dX10_write_26 (by decide) (fun c4 => ?_) (fun c4 => ?_)
    · replace hm := ite_f c4 hm
      refine lv_aload_n hx hb dX10_write_32 rfl (lv_at hl 0 rfl) ?_
      refine va_get (D := (dC, dI)) (ci := 8) (v := .ref a_text) (C := RX10) (T := TX10) (N := 31) hx hb hts iX10 hown hK hP 0 rfl rfl 1 (by decide) f7 (fun _ h9 => h9) rfl dX10_write_33 ?_
      refine lv_aload_n hx hb dX10_write_36 rfl (lv_at hl 0 rfl) ?_
      refine va_get (D := (dC, dI)) (ci := 8) (v := .int v_textSize) (C := RX10) (T := TX10) (N := 31) hx hb hts iX10 hown hK hP 0 rfl rfl 2 (by decide) f76 (fun _ h9 => h9) rfl dX10_write_37 ?_
      refine lv_iload_n hx hb dX10_write_40 rfl (lv_at hl 1 rfl) ?_
      obtain ⟨h5, hm⟩ := gd_s hm
      refine va_iast hx hb hK hP (kb_D hD rfl) hS 1 0 rfl rfl (inB_s h5) dX10_write_41 (fun H locs hP _ hS => ?_)
      have hP : va_P (dC, dI) vwCl [oX10 a_th (.int (0 : Int32)) (.ref a_text) (.int v_textSize) (.int v_place) q_question (.int v_questionSize) (.int v_facts) (.int v_isSo) (.int v_common) (.int v_readFacts) (.int v_readSo) (.int v_readCommon) (.int v_readDay) q_page (.long v_seed) q_book q_bookSeed (.int v_acts) q_kept q_isKept (.int v_told) q_toldSimple q_toldDay q_toldYes q_yesOf q_noOf q_factOf q_stack q_one q_two q_three, aI cI a_text 24 (upd v_text (Int32.toNatClampNeg v_textSize) p_1)] H := hP
      refine lv_aload_n hx hb dX10_write_42 rfl (lv_at hl 0 rfl) ?_
      refine lv_dup hx hb dX10_write_43 rfl ?_
      refine va_get (D := (dC, dI)) (ci := 8) (v := .int v_textSize) (C := RX10) (T := TX10) (N := 31) hx hb hts iX10 hown hK hP 0 rfl rfl 2 (by decide) f76 (fun _ h9 => h9) rfl dX10_write_44 ?_
      refine lv_iconst (v := (1 : Int32)) hx hb dX10_write_47 (by decide) ?_
      refine lv_iadd hx hb dX10_write_48 ?_
      refine lv_topi (fun x6 ex6 => ?_)
      replace hm := nm_t ex6 hm
      refine va_put (D := (dC, dI)) (ci := 8) (v := .int x6) (ty := .int) (C := RX10) (T := TX10) (N := 31) hx hb hts iX10 tyX10 tyX10_ok nmX10 hown hK hP (kb_D hD rfl) hS 0 rfl rfl 2 (by decide) f76 (fun _ h9 => h9) rfl (by decide +kernel) rfl rfl (Nat.le_of_ble_eq_true rfl) dX10_write_49 (fun H locs hP _ hS => ?_)
      have hP : va_P (dC, dI) vwCl [oX10 a_th (.int (0 : Int32)) (.ref a_text) (.int x6) (.int v_place) q_question (.int v_questionSize) (.int v_facts) (.int v_isSo) (.int v_common) (.int v_readFacts) (.int v_readSo) (.int v_readCommon) (.int v_readDay) q_page (.long v_seed) q_book q_bookSeed (.int v_acts) q_kept q_isKept (.int v_told) q_toldSimple q_toldDay q_toldYes q_yesOf q_noOf q_factOf q_stack q_one q_two q_three, aI cI a_text 24 (upd v_text (Int32.toNatClampNeg v_textSize) p_1)] H := hP
      refine lv_aload_n hx hb dX10_write_52 rfl (lv_at hl 0 rfl) ?_
      refine va_get (D := (dC, dI)) (ci := 8) (v := .int x6) (C := RX10) (T := TX10) (N := 31) hx hb hts iX10 hown hK hP 0 rfl rfl 2 (by decide) f76 (fun _ h9 => h9) rfl dX10_write_53 ?_
      obtain rfl := Option.some.inj hm
      subst hQ
      exact W.iret hx hb hr (fun t ht hW => ⟨⟨_, (), rfl, rfl, kb_h hP ht⟩, hS.F ht⟩) hS.2.2 dX10_write_56
    · replace hm := ite_t c4 hm
      refine lv_bipush (v := (-4 : Int32)) hx hb dX10_write_29 (by decide) ?_
      obtain rfl := Option.some.inj hm
      subst hQ
      exact W.iret hx hb hr (fun t ht hW => ⟨⟨_, (), rfl, rfl, kb_h hP ht⟩, hS.F ht⟩) hS.2.2 dX10_write_31
  · replace hm := ite_t c3 hm
    refine lv_bipush (v := (-2 : Int32)) hx hb dX10_write_17 (by decide) ?_
    obtain rfl := Option.some.inj hm
    subst hQ
    exact W.iret hx hb hr (fun t ht hW => ⟨⟨_, (), rfl, rfl, kb_h hP ht⟩, hS.F ht⟩) hS.2.2 dX10_write_19
set_option maxHeartbeats 4000000 in
set_option maxRecDepth 100000 in
theorem c_X10_wipe (l : Launch) (dC : Nat → ClassId) (dI : Nat → Nat → Nat) (cI cJ cZ cQ : ClassId) (t sz : Nat) (a_th : Nat) (q_text : Value) (q_question : Value) (q_page : Value) (q_book : Value) (q_bookSeed : Value) (q_kept : Value) (q_isKept : Value) (q_toldSimple : Value) (q_toldDay : Value) (q_toldYes : Value) (q_yesOf : Value) (q_noOf : Value) (q_factOf : Value) (q_stack : Value) (q_one : Value) (q_two : Value) (q_three : Value) (v_thrown : Int32) (v_textSize : Int32) (v_place : Int32) (v_questionSize : Int32) (v_facts : Int32) (v_isSo : Int32) (v_common : Int32) (v_readFacts : Int32) (v_readSo : Int32) (v_readCommon : Int32) (v_readDay : Int32) (v_seed : Int64) (v_acts : Int32) (v_told : Int32) (o : Int32 × Int32 × Int32) (hm : m_X10_wipe v_thrown v_textSize = some o) : Met l yX10_wipe wsX10_wipe { frames := 0, cells := 0, slots := 0, locals := 0 } (va_Pc [.ref a_th] (cP (dC, dI) (kT cI cJ cZ cQ) t sz [oX10 a_th (.int v_thrown) q_text (.int v_textSize) (.int v_place) q_question (.int v_questionSize) (.int v_facts) (.int v_isSo) (.int v_common) (.int v_readFacts) (.int v_readSo) (.int v_readCommon) (.int v_readDay) q_page (.long v_seed) q_book q_bookSeed (.int v_acts) q_kept q_isKept (.int v_told) q_toldSimple q_toldDay q_toldYes q_yesOf q_noOf q_factOf q_stack q_one q_two q_three])) (cQi (dC, dI) (va_A [oX10 a_th (.int v_thrown) q_text (.int v_textSize) (.int v_place) q_question (.int v_questionSize) (.int v_facts) (.int v_isSo) (.int v_common) (.int v_readFacts) (.int v_readSo) (.int v_readCommon) (.int v_readDay) q_page (.long v_seed) q_book q_bookSeed (.int v_acts) q_kept q_isKept (.int v_told) q_toldSimple q_toldDay q_toldYes q_yesOf q_noOf q_factOf q_stack q_one q_two q_three] sz) o.1 [oX10 a_th (.int (o.2.1)) q_text (.int (o.2.2)) (.int v_place) q_question (.int v_questionSize) (.int v_facts) (.int v_isSo) (.int v_common) (.int v_readFacts) (.int v_readSo) (.int v_readCommon) (.int v_readDay) q_page (.long v_seed) q_book q_bookSeed (.int v_acts) q_kept q_isKept (.int v_told) q_toldSimple q_toldDay q_toldYes q_yesOf q_noOf q_factOf q_stack q_one q_two q_three]) 0 0 (va_A [oX10 a_th (.int v_thrown) q_text (.int v_textSize) (.int v_place) q_question (.int v_questionSize) (.int v_facts) (.int v_isSo) (.int v_common) (.int v_readFacts) (.int v_readSo) (.int v_readCommon) (.int v_readDay) q_page (.long v_seed) q_book q_bookSeed (.int v_acts) q_kept q_isKept (.int v_told) q_toldSimple q_toldDay q_toldYes q_yesOf q_noOf q_factOf q_stack q_one q_two q_three] sz) := by
  refine Met.ofW (cc := cX10_wipe) (maxL := 2) (ret := (some .int)) (by decide) rfl ?_
  intro p e s m args below meth c s₁ B hml hv
  obtain ⟨rfl, hsz, hP, hK, hD0, hG⟩ := hv
  have hx := B.exec
  have hb := B.bytes
  have hr := B.returns
  have hts := atoms_spec (ws := wsX10_wipe) B.pre
  have hown : s.vm.findClass RX10 = some m.cls := findClass_of_methodNamed B.named
  have hlocks := B.notSynchronized
  subst hsz
  have hD := hD0.self (sz := s.heap.size)
  generalize hAe : va_A [oX10 a_th (.int v_thrown) q_text (.int v_textSize) (.int v_place) q_question (.int v_questionSize) (.int v_facts) (.int v_isSo) (.int v_common) (.int v_readFacts) (.int v_readSo) (.int v_readCommon) (.int v_readDay) q_page (.long v_seed) q_book q_bookSeed (.int v_acts) q_kept q_isKept (.int v_told) q_toldSimple q_toldDay q_toldYes q_yesOf q_noOf q_factOf q_stack q_one q_two q_three] s.heap.size = A at hD hG ⊢
  have hA : ∀ q : Nat, s.heap.size ≤ q → A q := fun q h => by rw [← hAe]; exact Or.inr h
  have hS : va_S A s.heap s.heap [] := va_S.rf
  have hl := lv_entry ([.ref a_th]) (n := 2) (Nat.le_of_ble_eq_true rfl)
  rw [lg_entry_eq]
  generalize (lg_sl ([.ref a_th]) ++ List.replicate (2 - (lg_sl ([.ref a_th])).length) Slot.unset).toArray = ls at hl ⊢
  have hl : lv_has ls 2 [(0, .ref a_th)] := hl
  have iX10 : ∀ w ∈ wsX100, w ∈ wsX10_wipe := fun _ h => List.mem_cons_of_mem _ (List.mem_append_right _ h)
  have f66 := hts (.fieldLink RX10 66 "TrueOnceWeekModel" "thrown" "I") (by decide +kernel)
  have f76 := hts (.fieldLink RX10 76 "TrueOnceWeekModel" "textSize" "I") (by decide +kernel)
  refine kb_gen (fun Q hQ => ?_)
  unfold m_X10_wipe at hm
  refine lv_aload_n hx hb dX10_wipe_0 rfl (lv_at hl 0 rfl) ?_
  refine lv_iconst (v := (0 : Int32)) hx hb dX10_wipe_1 (by decide) ?_
  refine va_put (D := (dC, dI)) (ci := 8) (v := .int (0 : Int32)) (ty := .int) (C := RX10) (T := TX10) (N := 31) hx hb hts iX10 tyX10 tyX10_ok nmX10 hown hK hP (kb_D hD rfl) hS 0 rfl rfl 0 (by decide) f66 (fun _ h9 => h9) rfl (by decide +kernel) rfl rfl (Nat.le_of_ble_eq_true rfl) dX10_wipe_2 (fun H locs hP _ hS => ?_)
  have hP : va_P (dC, dI) vwCl [oX10 a_th (.int (0 : Int32)) q_text (.int v_textSize) (.int v_place) q_question (.int v_questionSize) (.int v_facts) (.int v_isSo) (.int v_common) (.int v_readFacts) (.int v_readSo) (.int v_readCommon) (.int v_readDay) q_page (.long v_seed) q_book q_bookSeed (.int v_acts) q_kept q_isKept (.int v_told) q_toldSimple q_toldDay q_toldYes q_yesOf q_noOf q_factOf q_stack q_one q_two q_three] H := hP
  refine lv_aload_n hx hb dX10_wipe_5 rfl (lv_at hl 0 rfl) ?_
  refine va_get (D := (dC, dI)) (ci := 8) (v := .int v_textSize) (C := RX10) (T := TX10) (N := 31) hx hb hts iX10 hown hK hP 0 rfl rfl 2 (by decide) f76 (fun _ h9 => h9) rfl dX10_wipe_6 ?_
  refine lv_istore_n (lv' := [(1, .int v_textSize), (0, .ref a_th)]) hx hb dX10_wipe_9 rfl hl (by decide) rfl (fun ls hl => ?_)
  refine lv_aload_n hx hb dX10_wipe_10 rfl (lv_at hl 1 rfl) ?_
  refine lv_iconst (v := (0 : Int32)) hx hb dX10_wipe_11 (by decide) ?_
  refine va_put (D := (dC, dI)) (ci := 8) (v := .int (0 : Int32)) (ty := .int) (C := RX10) (T := TX10) (N := 31) hx hb hts iX10 tyX10 tyX10_ok nmX10 hown hK hP (kb_D hD rfl) hS 0 rfl rfl 2 (by decide) f76 (fun _ h9 => h9) rfl (by decide +kernel) rfl rfl (Nat.le_of_ble_eq_true rfl) dX10_wipe_12 (fun H locs hP _ hS => ?_)
  have hP : va_P (dC, dI) vwCl [oX10 a_th (.int (0 : Int32)) q_text (.int (0 : Int32)) (.int v_place) q_question (.int v_questionSize) (.int v_facts) (.int v_isSo) (.int v_common) (.int v_readFacts) (.int v_readSo) (.int v_readCommon) (.int v_readDay) q_page (.long v_seed) q_book q_bookSeed (.int v_acts) q_kept q_isKept (.int v_told) q_toldSimple q_toldDay q_toldYes q_yesOf q_noOf q_factOf q_stack q_one q_two q_three] H := hP
  refine lv_iload_n hx hb dX10_wipe_15 rfl (lv_at hl 0 rfl) ?_
  obtain rfl := Option.some.inj hm
  subst hQ
  exact W.iret hx hb hr (fun t ht hW => ⟨⟨_, (), rfl, rfl, kb_h hP ht⟩, hS.F ht⟩) hS.2.2 dX10_wipe_16
set_option maxHeartbeats 4000000 in
set_option maxRecDepth 100000 in
theorem c_X10_figure (l : Launch) (dC : Nat → ClassId) (dI : Nat → Nat → Nat) (cI cJ cZ cQ : ClassId) (t sz : Nat) (a_th : Nat) (a_text : Nat) (q_question : Value) (q_page : Value) (q_book : Value) (q_bookSeed : Value) (q_kept : Value) (q_isKept : Value) (q_toldSimple : Value) (q_toldDay : Value) (q_toldYes : Value) (q_yesOf : Value) (q_noOf : Value) (q_factOf : Value) (q_stack : Value) (q_one : Value) (q_two : Value) (q_three : Value) (v_thrown : Int32) (v_textSize : Int32) (v_place : Int32) (v_questionSize : Int32) (v_facts : Int32) (v_isSo : Int32) (v_common : Int32) (v_readFacts : Int32) (v_readSo : Int32) (v_readCommon : Int32) (v_readDay : Int32) (v_seed : Int64) (v_acts : Int32) (v_told : Int32) (v_text : (Nat → Int32)) (p_1 : Int32) (p_2 : Int32) (o : Int32 × Int32) (hm : m_X10_figure p_1 p_2 v_textSize v_place v_text = some o) : Met l yX10_figure wsX10_figure { frames := 1, cells := 0, slots := 0, locals := 25 } (va_Pc [.ref a_th, .int p_1, .int p_2] (cP (dC, dI) (kT cI cJ cZ cQ) t sz [oX10 a_th (.int v_thrown) (.ref a_text) (.int v_textSize) (.int v_place) q_question (.int v_questionSize) (.int v_facts) (.int v_isSo) (.int v_common) (.int v_readFacts) (.int v_readSo) (.int v_readCommon) (.int v_readDay) q_page (.long v_seed) q_book q_bookSeed (.int v_acts) q_kept q_isKept (.int v_told) q_toldSimple q_toldDay q_toldYes q_yesOf q_noOf q_factOf q_stack q_one q_two q_three, aI cI a_text 24 v_text])) (cQi (dC, dI) (va_A [oX10 a_th (.int v_thrown) (.ref a_text) (.int v_textSize) (.int v_place) q_question (.int v_questionSize) (.int v_facts) (.int v_isSo) (.int v_common) (.int v_readFacts) (.int v_readSo) (.int v_readCommon) (.int v_readDay) q_page (.long v_seed) q_book q_bookSeed (.int v_acts) q_kept q_isKept (.int v_told) q_toldSimple q_toldDay q_toldYes q_yesOf q_noOf q_factOf q_stack q_one q_two q_three, aI cI a_text 24 v_text] sz) o.1 [oX10 a_th (.int v_thrown) (.ref a_text) (.int v_textSize) (.int (o.2)) q_question (.int v_questionSize) (.int v_facts) (.int v_isSo) (.int v_common) (.int v_readFacts) (.int v_readSo) (.int v_readCommon) (.int v_readDay) q_page (.long v_seed) q_book q_bookSeed (.int v_acts) q_kept q_isKept (.int v_told) q_toldSimple q_toldDay q_toldYes q_yesOf q_noOf q_factOf q_stack q_one q_two q_three, aI cI a_text 24 v_text]) 0 0 (va_A [oX10 a_th (.int v_thrown) (.ref a_text) (.int v_textSize) (.int v_place) q_question (.int v_questionSize) (.int v_facts) (.int v_isSo) (.int v_common) (.int v_readFacts) (.int v_readSo) (.int v_readCommon) (.int v_readDay) q_page (.long v_seed) q_book q_bookSeed (.int v_acts) q_kept q_isKept (.int v_told) q_toldSimple q_toldDay q_toldYes q_yesOf q_noOf q_factOf q_stack q_one q_two q_three, aI cI a_text 24 v_text] sz) := by
  refine Met.ofW (cc := cX10_figure) (maxL := 3) (ret := (some .int)) (by decide) rfl ?_
  intro p e s m args below meth c s₁ B hml hv
  obtain ⟨rfl, hsz, hP, hK, hD0, hG⟩ := hv
  have hx := B.exec
  have hb := B.bytes
  have hr := B.returns
  have hts := atoms_spec (ws := wsX10_figure) B.pre
  have hown : s.vm.findClass RX10 = some m.cls := findClass_of_methodNamed B.named
  have hlocks := B.notSynchronized
  subst hsz
  have hD := hD0.self (sz := s.heap.size)
  generalize hAe : va_A [oX10 a_th (.int v_thrown) (.ref a_text) (.int v_textSize) (.int v_place) q_question (.int v_questionSize) (.int v_facts) (.int v_isSo) (.int v_common) (.int v_readFacts) (.int v_readSo) (.int v_readCommon) (.int v_readDay) q_page (.long v_seed) q_book q_bookSeed (.int v_acts) q_kept q_isKept (.int v_told) q_toldSimple q_toldDay q_toldYes q_yesOf q_noOf q_factOf q_stack q_one q_two q_three, aI cI a_text 24 v_text] s.heap.size = A at hD hG ⊢
  have hA : ∀ q : Nat, s.heap.size ≤ q → A q := fun q h => by rw [← hAe]; exact Or.inr h
  have hS : va_S A s.heap s.heap [] := va_S.rf
  have hl := lv_entry ([.ref a_th, .int p_1, .int p_2]) (n := 3) (Nat.le_of_ble_eq_true rfl)
  rw [lg_entry_eq]
  generalize (lg_sl ([.ref a_th, .int p_1, .int p_2]) ++ List.replicate (3 - (lg_sl ([.ref a_th, .int p_1, .int p_2])).length) Slot.unset).toArray = ls at hl ⊢
  have hl : lv_has ls 3 [(0, .ref a_th), (1, .int p_1), (2, .int p_2)] := hl
  have iX10 : ∀ w ∈ wsX100, w ∈ wsX10_figure := fun _ h => List.mem_cons_of_mem _ (List.mem_append_right _ h)
  have f79 := hts (.fieldLink RX10 79 "TrueOnceWeekModel" "place" "I") (by decide +kernel)
  have f76 := hts (.fieldLink RX10 76 "TrueOnceWeekModel" "textSize" "I") (by decide +kernel)
  have f7 := hts (.fieldLink RX10 7 "TrueOnceWeekModel" "text" "[I") (by decide +kernel)
  refine kb_gen (fun Q hQ => ?_)
  unfold m_X10_figure at hm
  refine lv_aload_n hx hb dX10_figure_0 rfl (lv_at hl 0 rfl) ?_
  refine va_get (D := (dC, dI)) (ci := 8) (v := .int v_place) (C := RX10) (T := TX10) (N := 31) hx hb hts iX10 hown hK hP 0 rfl rfl 3 (by decide) f79 (fun _ h9 => h9) rfl dX10_figure_1 ?_
  refine lv_aload_n hx hb dX10_figure_4 rfl (lv_at hl 0 rfl) ?_
  refine va_get (D := (dC, dI)) (ci := 8) (v := .int v_textSize) (C := RX10) (T := TX10) (N := 31) hx hb hts iX10 hown hK hP 0 rfl rfl 2 (by decide) f76 (fun _ h9 => h9) rfl dX10_figure_5 ?_
  refine lv_icmp_eq (tgt := 34) hx hb dX10_figure_8 (by decide) (fun c1 => ?_) (fun c1 => ?_)
  · replace hm := ite_t c1 hm
    refine lv_bipush (v := (-9 : Int32)) hx hb dX10_figure_34 (by decide) ?_
    obtain rfl := Option.some.inj hm
    subst hQ
    exact W.iret hx hb hr (fun t ht hW => ⟨⟨_, (), rfl, rfl, kb_h hP ht⟩, hS.F ht⟩) hS.2.2 dX10_figure_36
  · replace hm := ite_f c1 hm
    refine lv_aload_n hx hb dX10_figure_11 rfl (lv_at hl 0 rfl) ?_
    refine va_get (D := (dC, dI)) (ci := 8) (v := .ref a_text) (C := RX10) (T := TX10) (N := 31) hx hb hts iX10 hown hK hP 0 rfl rfl 1 (by decide) f7 (fun _ h9 => h9) rfl dX10_figure_12 ?_
    refine lv_aload_n hx hb dX10_figure_15 rfl (lv_at hl 0 rfl) ?_
    refine va_get (D := (dC, dI)) (ci := 8) (v := .int v_place) (C := RX10) (T := TX10) (N := 31) hx hb hts iX10 hown hK hP 0 rfl rfl 3 (by decide) f79 (fun _ h9 => h9) rfl dX10_figure_16 ?_
    obtain ⟨h2, hm⟩ := gd_s hm
    refine va_iald hx hb hK hP 1 0 rfl rfl (inB_s h2) dX10_figure_19 ?_
    refine lv_bipush (v := (48 : Int32)) hx hb dX10_figure_20 (by decide) ?_
    refine lv_isub hx hb dX10_figure_22 ?_
    refine lv_i2l (v := (Int32.toInt64 ((v_text (Int32.toNatClampNeg v_place)) - (48 : Int32)))) hx hb dX10_figure_23 rfl ?_
    refine lv_iload_n hx hb dX10_figure_24 rfl (lv_at hl 1 rfl) ?_
    refine lv_i2l (v := (Int32.toInt64 p_1)) hx hb dX10_figure_25 rfl ?_
    refine lv_iload_n hx hb dX10_figure_26 rfl (lv_at hl 2 rfl) ?_
    refine lv_i2l (v := (Int32.toInt64 p_2)) hx hb dX10_figure_27 rfl ?_
    obtain ⟨r3, ho4, hm⟩ := bd1_s hm
    refine kb_calli (Rv := r3) (va_runS (As := [.long (Int32.toInt64 ((v_text (Int32.toNatClampNeg v_place)) - (48 : Int32))), .long (Int32.toInt64 p_1), .long (Int32.toInt64 p_2)]) (rest := []) ⟨hx, hb, hml, hown, hts⟩ (c_X10_in l dC dI cI cJ cZ cQ t s.heap.size (Int32.toInt64 ((v_text (Int32.toNatClampNeg v_place)) - (48 : Int32))) (Int32.toInt64 p_1) (Int32.toInt64 p_2) (r3) ho4) (va_cwS 3 hts gX10_figure_X10_in rfl rfl rfl (by decide +kernel) ⟨(Nat.le_of_ble_eq_true rfl), (Nat.le_of_ble_eq_true rfl)⟩) (kb_pre hK hG hP (kb_D hD rfl) hS hA [] rfl (by decide)) rfl rfl hl.1 rfl (lv_room (Nat.le_of_ble_eq_true rfl)) dX10_figure_28 ⟨Nat.zero_le _, Nat.zero_le _⟩) hP (kb_D hD rfl) hS hA [] rfl [(false, 0), (false, 1)] (w2 := [oX10 a_th (.int v_thrown) (.ref a_text) (.int v_textSize) (.int v_place) q_question (.int v_questionSize) (.int v_facts) (.int v_isSo) (.int v_common) (.int v_readFacts) (.int v_readSo) (.int v_readCommon) (.int v_readDay) q_page (.long v_seed) q_book q_bookSeed (.int v_acts) q_kept q_isKept (.int v_told) q_toldSimple q_toldDay q_toldYes q_yesOf q_noOf q_factOf q_stack q_one q_two q_three, aI cI a_text 24 v_text]) rfl (by decide) (fun H locs hP hS => ?_)
    refine lv_if_ne (tgt := 37) hx hb dX10_figure_31 (by decide) (fun c5 => ?_) (fun c5 => ?_)
    · replace hm := ite_f c5 hm
      refine lv_aload_n hx hb dX10_figure_37 rfl (lv_at hl 0 rfl) ?_
      refine lv_dup hx hb dX10_figure_38 rfl ?_
      refine va_get (D := (dC, dI)) (ci := 8) (v := .int v_place) (C := RX10) (T := TX10) (N := 31) hx hb hts iX10 hown hK hP 0 rfl rfl 3 (by decide) f79 (fun _ h9 => h9) rfl dX10_figure_39 ?_
      refine lv_iconst (v := (1 : Int32)) hx hb dX10_figure_42 (by decide) ?_
      refine lv_iadd hx hb dX10_figure_43 ?_
      refine lv_topi (fun x6 ex6 => ?_)
      replace hm := nm_t ex6 hm
      refine va_put (D := (dC, dI)) (ci := 8) (v := .int x6) (ty := .int) (C := RX10) (T := TX10) (N := 31) hx hb hts iX10 tyX10 tyX10_ok nmX10 hown hK hP (kb_D hD rfl) hS 0 rfl rfl 3 (by decide) f79 (fun _ h9 => h9) rfl (by decide +kernel) rfl rfl (Nat.le_of_ble_eq_true rfl) dX10_figure_44 (fun H locs hP _ hS => ?_)
      have hP : va_P (dC, dI) vwCl [oX10 a_th (.int v_thrown) (.ref a_text) (.int v_textSize) (.int x6) q_question (.int v_questionSize) (.int v_facts) (.int v_isSo) (.int v_common) (.int v_readFacts) (.int v_readSo) (.int v_readCommon) (.int v_readDay) q_page (.long v_seed) q_book q_bookSeed (.int v_acts) q_kept q_isKept (.int v_told) q_toldSimple q_toldDay q_toldYes q_yesOf q_noOf q_factOf q_stack q_one q_two q_three, aI cI a_text 24 v_text] H := hP
      refine lv_aload_n hx hb dX10_figure_47 rfl (lv_at hl 0 rfl) ?_
      refine va_get (D := (dC, dI)) (ci := 8) (v := .ref a_text) (C := RX10) (T := TX10) (N := 31) hx hb hts iX10 hown hK hP 0 rfl rfl 1 (by decide) f7 (fun _ h9 => h9) rfl dX10_figure_48 ?_
      refine lv_aload_n hx hb dX10_figure_51 rfl (lv_at hl 0 rfl) ?_
      refine va_get (D := (dC, dI)) (ci := 8) (v := .int x6) (C := RX10) (T := TX10) (N := 31) hx hb hts iX10 hown hK hP 0 rfl rfl 3 (by decide) f79 (fun _ h9 => h9) rfl dX10_figure_52 ?_
      refine lv_iconst (v := (1 : Int32)) hx hb dX10_figure_55 (by decide) ?_
      refine lv_isub hx hb dX10_figure_56 ?_
      obtain ⟨h7, hm⟩ := gd_s hm
      refine va_iald hx hb hK hP 1 0 rfl rfl (inB_s h7) dX10_figure_57 ?_
      refine lv_bipush (v := (48 : Int32)) hx hb dX10_figure_58 (by decide) ?_
      refine lv_isub hx hb dX10_figure_60 ?_
      obtain rfl := Option.some.inj hm
      subst hQ
      exact W.iret hx hb hr (fun t ht hW => ⟨⟨_, (), rfl, rfl, kb_h hP ht⟩, hS.F ht⟩) hS.2.2 dX10_figure_61
    · replace hm := ite_t c5 hm
      refine lv_bipush (v := (-9 : Int32)) hx hb dX10_figure_34 (by decide) ?_
      obtain rfl := Option.some.inj hm
      subst hQ
      exact W.iret hx hb hr (fun t ht hW => ⟨⟨_, (), rfl, rfl, kb_h hP ht⟩, hS.F ht⟩) hS.2.2 dX10_figure_36
set_option maxHeartbeats 4000000 in
set_option maxRecDepth 100000 in
theorem c_X10_readCastle (l : Launch) (dC : Nat → ClassId) (dI : Nat → Nat → Nat) (cI cJ cZ cQ : ClassId) (t sz : Nat) (a_th : Nat) (a_text : Nat) (q_question : Value) (q_page : Value) (q_book : Value) (q_bookSeed : Value) (q_kept : Value) (q_isKept : Value) (q_toldSimple : Value) (q_toldDay : Value) (q_toldYes : Value) (q_yesOf : Value) (q_noOf : Value) (q_factOf : Value) (q_stack : Value) (q_one : Value) (q_two : Value) (q_three : Value) (v_thrown : Int32) (v_textSize : Int32) (v_place : Int32) (v_questionSize : Int32) (v_facts : Int32) (v_isSo : Int32) (v_common : Int32) (v_readFacts : Int32) (v_readSo : Int32) (v_readCommon : Int32) (v_readDay : Int32) (v_seed : Int64) (v_acts : Int32) (v_told : Int32) (v_text : (Nat → Int32)) (o : Int32 × Int32 × Int32 × Int32 × Int32 × Int32) (hm : m_X10_readCastle v_textSize v_place v_readFacts v_readSo v_readCommon v_readDay v_text = some o) : Met l yX10_readCastle wsX10_readCastle { frames := 2, cells := 0, slots := 0, locals := 47 } (va_Pc [.ref a_th] (cP (dC, dI) (kT cI cJ cZ cQ) t sz [oX10 a_th (.int v_thrown) (.ref a_text) (.int v_textSize) (.int v_place) q_question (.int v_questionSize) (.int v_facts) (.int v_isSo) (.int v_common) (.int v_readFacts) (.int v_readSo) (.int v_readCommon) (.int v_readDay) q_page (.long v_seed) q_book q_bookSeed (.int v_acts) q_kept q_isKept (.int v_told) q_toldSimple q_toldDay q_toldYes q_yesOf q_noOf q_factOf q_stack q_one q_two q_three, aI cI a_text 24 v_text])) (cQi (dC, dI) (va_A [oX10 a_th (.int v_thrown) (.ref a_text) (.int v_textSize) (.int v_place) q_question (.int v_questionSize) (.int v_facts) (.int v_isSo) (.int v_common) (.int v_readFacts) (.int v_readSo) (.int v_readCommon) (.int v_readDay) q_page (.long v_seed) q_book q_bookSeed (.int v_acts) q_kept q_isKept (.int v_told) q_toldSimple q_toldDay q_toldYes q_yesOf q_noOf q_factOf q_stack q_one q_two q_three, aI cI a_text 24 v_text] sz) o.1 [oX10 a_th (.int v_thrown) (.ref a_text) (.int v_textSize) (.int (o.2.1)) q_question (.int v_questionSize) (.int v_facts) (.int v_isSo) (.int v_common) (.int (o.2.2.1)) (.int (o.2.2.2.1)) (.int (o.2.2.2.2.1)) (.int (o.2.2.2.2.2)) q_page (.long v_seed) q_book q_bookSeed (.int v_acts) q_kept q_isKept (.int v_told) q_toldSimple q_toldDay q_toldYes q_yesOf q_noOf q_factOf q_stack q_one q_two q_three, aI cI a_text 24 v_text]) 0 0 (va_A [oX10 a_th (.int v_thrown) (.ref a_text) (.int v_textSize) (.int v_place) q_question (.int v_questionSize) (.int v_facts) (.int v_isSo) (.int v_common) (.int v_readFacts) (.int v_readSo) (.int v_readCommon) (.int v_readDay) q_page (.long v_seed) q_book q_bookSeed (.int v_acts) q_kept q_isKept (.int v_told) q_toldSimple q_toldDay q_toldYes q_yesOf q_noOf q_factOf q_stack q_one q_two q_three, aI cI a_text 24 v_text] sz) := by
  refine Met.ofW (cc := cX10_readCastle) (maxL := 3) (ret := (some .int)) (by decide) rfl ?_
  intro p e s m args below meth c s₁ B hml hv
  obtain ⟨rfl, hsz, hP, hK, hD0, hG⟩ := hv
  have hx := B.exec
  have hb := B.bytes
  have hr := B.returns
  have hts := atoms_spec (ws := wsX10_readCastle) B.pre
  have hown : s.vm.findClass RX10 = some m.cls := findClass_of_methodNamed B.named
  have hlocks := B.notSynchronized
  subst hsz
  have hD := hD0.self (sz := s.heap.size)
  generalize hAe : va_A [oX10 a_th (.int v_thrown) (.ref a_text) (.int v_textSize) (.int v_place) q_question (.int v_questionSize) (.int v_facts) (.int v_isSo) (.int v_common) (.int v_readFacts) (.int v_readSo) (.int v_readCommon) (.int v_readDay) q_page (.long v_seed) q_book q_bookSeed (.int v_acts) q_kept q_isKept (.int v_told) q_toldSimple q_toldDay q_toldYes q_yesOf q_noOf q_factOf q_stack q_one q_two q_three, aI cI a_text 24 v_text] s.heap.size = A at hD hG ⊢
  have hA : ∀ q : Nat, s.heap.size ≤ q → A q := fun q h => by rw [← hAe]; exact Or.inr h
  have hS : va_S A s.heap s.heap [] := va_S.rf
  have hl := lv_entry ([.ref a_th]) (n := 3) (Nat.le_of_ble_eq_true rfl)
  rw [lg_entry_eq]
  generalize (lg_sl ([.ref a_th]) ++ List.replicate (3 - (lg_sl ([.ref a_th])).length) Slot.unset).toArray = ls at hl ⊢
  have hl : lv_has ls 3 [(0, .ref a_th)] := hl
  have iX10 : ∀ w ∈ wsX100, w ∈ wsX10_readCastle := fun _ h => List.mem_cons_of_mem _ (List.mem_append_right _ h)
  have f79 := hts (.fieldLink RX10 79 "TrueOnceWeekModel" "place" "I") (by decide +kernel)
  have f82 := hts (.fieldLink RX10 82 "TrueOnceWeekModel" "readFacts" "I") (by decide +kernel)
  have f85 := hts (.fieldLink RX10 85 "TrueOnceWeekModel" "readSo" "I") (by decide +kernel)
  have f88 := hts (.fieldLink RX10 88 "TrueOnceWeekModel" "readCommon" "I") (by decide +kernel)
  have f76 := hts (.fieldLink RX10 76 "TrueOnceWeekModel" "textSize" "I") (by decide +kernel)
  have f7 := hts (.fieldLink RX10 7 "TrueOnceWeekModel" "text" "[I") (by decide +kernel)
  have f95 := hts (.fieldLink RX10 95 "TrueOnceWeekModel" "readDay" "I") (by decide +kernel)
  refine kb_gen (fun Q hQ => ?_)
  unfold m_X10_readCastle at hm
  refine lv_aload_n hx hb dX10_readCastle_0 rfl (lv_at hl 0 rfl) ?_
  refine lv_iconst (v := (0 : Int32)) hx hb dX10_readCastle_1 (by decide) ?_
  refine va_put (D := (dC, dI)) (ci := 8) (v := .int (0 : Int32)) (ty := .int) (C := RX10) (T := TX10) (N := 31) hx hb hts iX10 tyX10 tyX10_ok nmX10 hown hK hP (kb_D hD rfl) hS 0 rfl rfl 3 (by decide) f79 (fun _ h9 => h9) rfl (by decide +kernel) rfl rfl (Nat.le_of_ble_eq_true rfl) dX10_readCastle_2 (fun H locs hP _ hS => ?_)
  have hP : va_P (dC, dI) vwCl [oX10 a_th (.int v_thrown) (.ref a_text) (.int v_textSize) (.int (0 : Int32)) q_question (.int v_questionSize) (.int v_facts) (.int v_isSo) (.int v_common) (.int v_readFacts) (.int v_readSo) (.int v_readCommon) (.int v_readDay) q_page (.long v_seed) q_book q_bookSeed (.int v_acts) q_kept q_isKept (.int v_told) q_toldSimple q_toldDay q_toldYes q_yesOf q_noOf q_factOf q_stack q_one q_two q_three, aI cI a_text 24 v_text] H := hP
  refine lv_aload_n hx hb dX10_readCastle_5 rfl (lv_at hl 0 rfl) ?_
  refine lv_iconst (v := (0 : Int32)) hx hb dX10_readCastle_6 (by decide) ?_
  refine va_put (D := (dC, dI)) (ci := 8) (v := .int (0 : Int32)) (ty := .int) (C := RX10) (T := TX10) (N := 31) hx hb hts iX10 tyX10 tyX10_ok nmX10 hown hK hP (kb_D hD rfl) hS 0 rfl rfl 9 (by decide) f82 (fun _ h9 => h9) rfl (by decide +kernel) rfl rfl (Nat.le_of_ble_eq_true rfl) dX10_readCastle_7 (fun H locs hP _ hS => ?_)
  have hP : va_P (dC, dI) vwCl [oX10 a_th (.int v_thrown) (.ref a_text) (.int v_textSize) (.int (0 : Int32)) q_question (.int v_questionSize) (.int v_facts) (.int v_isSo) (.int v_common) (.int (0 : Int32)) (.int v_readSo) (.int v_readCommon) (.int v_readDay) q_page (.long v_seed) q_book q_bookSeed (.int v_acts) q_kept q_isKept (.int v_told) q_toldSimple q_toldDay q_toldYes q_yesOf q_noOf q_factOf q_stack q_one q_two q_three, aI cI a_text 24 v_text] H := hP
  refine lv_aload_n hx hb dX10_readCastle_10 rfl (lv_at hl 0 rfl) ?_
  refine lv_iconst (v := (0 : Int32)) hx hb dX10_readCastle_11 (by decide) ?_
  refine va_put (D := (dC, dI)) (ci := 8) (v := .int (0 : Int32)) (ty := .int) (C := RX10) (T := TX10) (N := 31) hx hb hts iX10 tyX10 tyX10_ok nmX10 hown hK hP (kb_D hD rfl) hS 0 rfl rfl 10 (by decide) f85 (fun _ h9 => h9) rfl (by decide +kernel) rfl rfl (Nat.le_of_ble_eq_true rfl) dX10_readCastle_12 (fun H locs hP _ hS => ?_)
  have hP : va_P (dC, dI) vwCl [oX10 a_th (.int v_thrown) (.ref a_text) (.int v_textSize) (.int (0 : Int32)) q_question (.int v_questionSize) (.int v_facts) (.int v_isSo) (.int v_common) (.int (0 : Int32)) (.int (0 : Int32)) (.int v_readCommon) (.int v_readDay) q_page (.long v_seed) q_book q_bookSeed (.int v_acts) q_kept q_isKept (.int v_told) q_toldSimple q_toldDay q_toldYes q_yesOf q_noOf q_factOf q_stack q_one q_two q_three, aI cI a_text 24 v_text] H := hP
  refine lv_aload_n hx hb dX10_readCastle_15 rfl (lv_at hl 0 rfl) ?_
  refine lv_iconst (v := (0 : Int32)) hx hb dX10_readCastle_16 (by decide) ?_
  refine va_put (D := (dC, dI)) (ci := 8) (v := .int (0 : Int32)) (ty := .int) (C := RX10) (T := TX10) (N := 31) hx hb hts iX10 tyX10 tyX10_ok nmX10 hown hK hP (kb_D hD rfl) hS 0 rfl rfl 11 (by decide) f88 (fun _ h9 => h9) rfl (by decide +kernel) rfl rfl (Nat.le_of_ble_eq_true rfl) dX10_readCastle_17 (fun H locs hP _ hS => ?_)
  have hP : va_P (dC, dI) vwCl [oX10 a_th (.int v_thrown) (.ref a_text) (.int v_textSize) (.int (0 : Int32)) q_question (.int v_questionSize) (.int v_facts) (.int v_isSo) (.int v_common) (.int (0 : Int32)) (.int (0 : Int32)) (.int (0 : Int32)) (.int v_readDay) q_page (.long v_seed) q_book q_bookSeed (.int v_acts) q_kept q_isKept (.int v_told) q_toldSimple q_toldDay q_toldYes q_yesOf q_noOf q_factOf q_stack q_one q_two q_three, aI cI a_text 24 v_text] H := hP
  refine lv_aload_n hx hb dX10_readCastle_20 rfl (lv_at hl 0 rfl) ?_
  refine va_get (D := (dC, dI)) (ci := 8) (v := .int v_textSize) (C := RX10) (T := TX10) (N := 31) hx hb hts iX10 hown hK hP 0 rfl rfl 2 (by decide) f76 (fun _ h9 => h9) rfl dX10_readCastle_21 ?_
  refine lv_if_eq (tgt := 38) hx hb dX10_readCastle_24 (by decide) (fun c1 => ?_) (fun c1 => ?_)
  · replace hm := ite_t c1 hm
    refine lv_iconst (v := (0 : Int32)) hx hb dX10_readCastle_38 (by decide) ?_
    obtain rfl := Option.some.inj hm
    subst hQ
    exact W.iret hx hb hr (fun t ht hW => ⟨⟨_, (), rfl, rfl, kb_h hP ht⟩, hS.F ht⟩) hS.2.2 dX10_readCastle_39
  · replace hm := ite_f c1 hm
    refine lv_aload_n hx hb dX10_readCastle_27 rfl (lv_at hl 0 rfl) ?_
    refine va_get (D := (dC, dI)) (ci := 8) (v := .ref a_text) (C := RX10) (T := TX10) (N := 31) hx hb hts iX10 hown hK hP 0 rfl rfl 1 (by decide) f7 (fun _ h9 => h9) rfl dX10_readCastle_28 ?_
    refine lv_iconst (v := (0 : Int32)) hx hb dX10_readCastle_31 (by decide) ?_
    refine va_iald hx hb hK hP 1 0 rfl rfl (inB_s (by decide)) dX10_readCastle_32 ?_
    refine lv_bipush (v := (77 : Int32)) hx hb dX10_readCastle_33 (by decide) ?_
    refine lv_icmp_eq (tgt := 40) hx hb dX10_readCastle_35 (by decide) (fun c2 => ?_) (fun c2 => ?_)
    · replace hm := ite_t c2 hm
      refine lv_aload_n hx hb dX10_readCastle_40 rfl (lv_at hl 0 rfl) ?_
      refine lv_iconst (v := (1 : Int32)) hx hb dX10_readCastle_41 (by decide) ?_
      refine va_put (D := (dC, dI)) (ci := 8) (v := .int (1 : Int32)) (ty := .int) (C := RX10) (T := TX10) (N := 31) hx hb hts iX10 tyX10 tyX10_ok nmX10 hown hK hP (kb_D hD rfl) hS 0 rfl rfl 3 (by decide) f79 (fun _ h9 => h9) rfl (by decide +kernel) rfl rfl (Nat.le_of_ble_eq_true rfl) dX10_readCastle_42 (fun H locs hP _ hS => ?_)
      have hP : va_P (dC, dI) vwCl [oX10 a_th (.int v_thrown) (.ref a_text) (.int v_textSize) (.int (1 : Int32)) q_question (.int v_questionSize) (.int v_facts) (.int v_isSo) (.int v_common) (.int (0 : Int32)) (.int (0 : Int32)) (.int (0 : Int32)) (.int v_readDay) q_page (.long v_seed) q_book q_bookSeed (.int v_acts) q_kept q_isKept (.int v_told) q_toldSimple q_toldDay q_toldYes q_yesOf q_noOf q_factOf q_stack q_one q_two q_three, aI cI a_text 24 v_text] H := hP
      refine lv_aload_n hx hb dX10_readCastle_45 rfl (lv_at hl 0 rfl) ?_
      refine lv_aload_n hx hb dX10_readCastle_46 rfl (lv_at hl 0 rfl) ?_
      refine lv_iconst (v := (0 : Int32)) hx hb dX10_readCastle_47 (by decide) ?_
      refine lv_bipush (v := (6 : Int32)) hx hb dX10_readCastle_48 (by decide) ?_
      obtain ⟨r3, w4, ho5, hm⟩ := bd2_s hm
      refine kb_calli (Rv := r3) (va_runV (As := [.int (0 : Int32), .int (6 : Int32)]) (rest := [.ref a_th]) ⟨hx, hb, hml, hown, hts⟩ (c_X10_figure l dC dI cI cJ cZ cQ t H.size a_th a_text q_question q_page q_book q_bookSeed q_kept q_isKept q_toldSimple q_toldDay q_toldYes q_yesOf q_noOf q_factOf q_stack q_one q_two q_three v_thrown v_textSize (1 : Int32) v_questionSize v_facts v_isSo v_common (0 : Int32) (0 : Int32) (0 : Int32) v_readDay v_seed v_acts v_told v_text (0 : Int32) (6 : Int32) (r3, w4) ho5) (cwV 2 hts gX10_readCastle_X10_figure rfl rfl rfl (by decide +kernel) ⟨(Nat.le_of_ble_eq_true rfl), (Nat.le_of_ble_eq_true rfl)⟩) ⟨(kb_pre hK hG hP (kb_D hD rfl) hS hA [0, 1] rfl (by decide)).1, (va_recv hK hP (ci := 8) (q0 := 0) rfl rfl), (kb_pre hK hG hP (kb_D hD rfl) hS hA [0, 1] rfl (by decide)).2⟩ rfl rfl hl.1 rfl (lv_room (Nat.le_of_ble_eq_true rfl)) dX10_readCastle_50 ⟨Nat.zero_le _, Nat.zero_le _⟩) hP (kb_D hD rfl) hS hA [0, 1] rfl [(true, 0), (true, 1)] (w2 := [oX10 a_th (.int v_thrown) (.ref a_text) (.int v_textSize) (.int w4) q_question (.int v_questionSize) (.int v_facts) (.int v_isSo) (.int v_common) (.int (0 : Int32)) (.int (0 : Int32)) (.int (0 : Int32)) (.int v_readDay) q_page (.long v_seed) q_book q_bookSeed (.int v_acts) q_kept q_isKept (.int v_told) q_toldSimple q_toldDay q_toldYes q_yesOf q_noOf q_factOf q_stack q_one q_two q_three, aI cI a_text 24 v_text]) rfl (by decide) (fun H locs hP hS => ?_)
      refine va_put (D := (dC, dI)) (ci := 8) (v := .int r3) (ty := .int) (C := RX10) (T := TX10) (N := 31) hx hb hts iX10 tyX10 tyX10_ok nmX10 hown hK hP (kb_D hD rfl) hS 0 rfl rfl 12 (by decide) f95 (fun _ h9 => h9) rfl (by decide +kernel) rfl rfl (Nat.le_of_ble_eq_true rfl) dX10_readCastle_53 (fun H locs hP _ hS => ?_)
      have hP : va_P (dC, dI) vwCl [oX10 a_th (.int v_thrown) (.ref a_text) (.int v_textSize) (.int w4) q_question (.int v_questionSize) (.int v_facts) (.int v_isSo) (.int v_common) (.int (0 : Int32)) (.int (0 : Int32)) (.int (0 : Int32)) (.int r3) q_page (.long v_seed) q_book q_bookSeed (.int v_acts) q_kept q_isKept (.int v_told) q_toldSimple q_toldDay q_toldYes q_yesOf q_noOf q_factOf q_stack q_one q_two q_three, aI cI a_text 24 v_text] H := hP
      refine lv_aload_n hx hb dX10_readCastle_56 rfl (lv_at hl 0 rfl) ?_
      refine va_get (D := (dC, dI)) (ci := 8) (v := .int r3) (C := RX10) (T := TX10) (N := 31) hx hb hts iX10 hown hK hP 0 rfl rfl 12 (by decide) f95 (fun _ h9 => h9) rfl dX10_readCastle_57 ?_
      refine lv_bipush (v := (-9 : Int32)) hx hb dX10_readCastle_60 (by decide) ?_
      refine lv_icmp_ne (tgt := 67) hx hb dX10_readCastle_62 (by decide) (fun c6 => ?_) (fun c6 => ?_)
      · replace hm := ite_f c6 hm
        have lp67 : ∀ (n67 : Nat) (w7 : Int32) (w8 : Int32) (w9 : Int32) (w10 : Int32) (k67 : Int32 → Int32 → Int32 → Int32 → Option (Int32 × Int32 × Int32 × Int32 × Int32 × Int32)) (H : Heap) (locs : List Loc) (ls : Array Slot), L_X10_readCastle_67 v_textSize v_text r3 n67 w7 w8 w9 w10 k67 = some o → (∀ (w11 : Int32) (w12 : Int32) (w13 : Int32) (w14 : Int32) (H : Heap) (locs : List Loc) (ls : Array Slot), k67 w11 w12 w13 w14 = some o → va_P (dC, dI) vwCl [oX10 a_th (.int v_thrown) (.ref a_text) (.int v_textSize) (.int w11) q_question (.int v_questionSize) (.int v_facts) (.int v_isSo) (.int v_common) (.int w12) (.int w13) (.int w14) (.int r3) q_page (.long v_seed) q_book q_bookSeed (.int v_acts) q_kept q_isKept (.int v_told) q_toldSimple q_toldDay q_toldYes q_yesOf q_noOf q_factOf q_stack q_one q_two q_three, aI cI a_text 24 v_text] H → va_S A s.heap H locs → lv_has ls 3 [] → W p l e (headSpec wsX10_readCastle { frames := 2, cells := 0, slots := 0, locals := 47 }).room s m [.ref a_th].toArray below meth c H locs 0 0 Q (F0 m 194 ls [])) → va_P (dC, dI) vwCl [oX10 a_th (.int v_thrown) (.ref a_text) (.int v_textSize) (.int w7) q_question (.int v_questionSize) (.int v_facts) (.int v_isSo) (.int v_common) (.int w8) (.int w9) (.int w10) (.int r3) q_page (.long v_seed) q_book q_bookSeed (.int v_acts) q_kept q_isKept (.int v_told) q_toldSimple q_toldDay q_toldYes q_yesOf q_noOf q_factOf q_stack q_one q_two q_three, aI cI a_text 24 v_text] H → va_S A s.heap H locs → lv_has ls 3 [(0, .ref a_th)] → W p l e (headSpec wsX10_readCastle { frames := 2, cells := 0, slots := 0, locals := 47 }).room s m [.ref a_th].toArray below meth c H locs 0 0 Q (F0 m 67 ls []) := by
          intro n67
          induction n67 with
          | zero =>
            intro w7 w8 w9 w10 k67 H locs ls hm
            cases (show (none : Option (Int32 × Int32 × Int32 × Int32 × Int32 × Int32)) = some o from hm)
          | succ n67 ih67 =>
            intro w7 w8 w9 w10 k67 H locs ls hm hk67 hP hS hl
            rw [L_X10_readCastle_67.eq_2] at hm
            refine lv_aload_n hx hb dX10_readCastle_67 rfl (lv_at hl 0 rfl) ?_
            refine va_get (D := (dC, dI)) (ci := 8) (v := .int w7) (C := RX10) (T := TX10) (N := 31) hx hb hts iX10 hown hK hP 0 rfl rfl 3 (by decide) f79 (fun _ h9 => h9) rfl dX10_readCastle_68 ?_
            refine lv_aload_n hx hb dX10_readCastle_71 rfl (lv_at hl 0 rfl) ?_
            refine va_get (D := (dC, dI)) (ci := 8) (v := .int v_textSize) (C := RX10) (T := TX10) (N := 31) hx hb hts iX10 hown hK hP 0 rfl rfl 2 (by decide) f76 (fun _ h9 => h9) rfl dX10_readCastle_72 ?_
            refine lv_icmp_ge (tgt := 194) hx hb dX10_readCastle_75 (by decide) (fun c15 => ?_) (fun c15 => ?_)
            · replace hm := ite_t c15 hm
              exact hk67 w7 w8 w9 w10 _ _ _ hm hP hS (lv_sub hl [] rfl)
            · replace hm := ite_f c15 hm
              refine lv_aload_n hx hb dX10_readCastle_78 rfl (lv_at hl 0 rfl) ?_
              refine va_get (D := (dC, dI)) (ci := 8) (v := .ref a_text) (C := RX10) (T := TX10) (N := 31) hx hb hts iX10 hown hK hP 0 rfl rfl 1 (by decide) f7 (fun _ h9 => h9) rfl dX10_readCastle_79 ?_
              refine lv_aload_n hx hb dX10_readCastle_82 rfl (lv_at hl 0 rfl) ?_
              refine va_get (D := (dC, dI)) (ci := 8) (v := .int w7) (C := RX10) (T := TX10) (N := 31) hx hb hts iX10 hown hK hP 0 rfl rfl 3 (by decide) f79 (fun _ h9 => h9) rfl dX10_readCastle_83 ?_
              obtain ⟨h16, hm⟩ := gd_s hm
              refine va_iald hx hb hK hP 1 0 rfl rfl (inB_s h16) dX10_readCastle_86 ?_
              refine lv_bipush (v := (70 : Int32)) hx hb dX10_readCastle_87 (by decide) ?_
              obtain ⟨k100, ek100, hm⟩ := nm_s hm
              have J100 : ∀ (H : Heap) (locs : List Loc) (ls : Array Slot), k100 = some o → va_P (dC, dI) vwCl [oX10 a_th (.int v_thrown) (.ref a_text) (.int v_textSize) (.int w7) q_question (.int v_questionSize) (.int v_facts) (.int v_isSo) (.int v_common) (.int w8) (.int w9) (.int w10) (.int r3) q_page (.long v_seed) q_book q_bookSeed (.int v_acts) q_kept q_isKept (.int v_told) q_toldSimple q_toldDay q_toldYes q_yesOf q_noOf q_factOf q_stack q_one q_two q_three, aI cI a_text 24 v_text] H → va_S A s.heap H locs → lv_has ls 3 [(0, .ref a_th)] → W p l e (headSpec wsX10_readCastle { frames := 2, cells := 0, slots := 0, locals := 47 }).room s m [.ref a_th].toArray below meth c H locs 0 0 Q (F0 m 100 ls []) := by
                intro  H locs ls hm hP hS hl
                rw [ek100] at hm
                refine lv_aload_n hx hb dX10_readCastle_100 rfl (lv_at hl 0 rfl) ?_
                refine va_get (D := (dC, dI)) (ci := 8) (v := .int w7) (C := RX10) (T := TX10) (N := 31) hx hb hts iX10 hown hK hP 0 rfl rfl 3 (by decide) f79 (fun _ h9 => h9) rfl dX10_readCastle_101 ?_
                obtain rfl := Option.some.inj hm
                subst hQ
                exact W.iret hx hb hr (fun t ht hW => ⟨⟨_, (), rfl, rfl, kb_h hP ht⟩, hS.F ht⟩) hS.2.2 dX10_readCastle_104
              refine lv_icmp_ne (tgt := 100) hx hb dX10_readCastle_89 (by decide) (fun c17 => ?_) (fun c17 => ?_)
              · replace hm := ite_f c17 hm
                exact J100  _ _ _ hm hP hS (lv_sub hl [0] rfl)
              · replace hm := ite_t c17 hm
                refine lv_aload_n hx hb dX10_readCastle_92 rfl (lv_at hl 0 rfl) ?_
                refine va_get (D := (dC, dI)) (ci := 8) (v := .int w8) (C := RX10) (T := TX10) (N := 31) hx hb hts iX10 hown hK hP 0 rfl rfl 9 (by decide) f82 (fun _ h9 => h9) rfl dX10_readCastle_93 ?_
                refine lv_iconst (v := (5 : Int32)) hx hb dX10_readCastle_96 (by decide) ?_
                refine lv_icmp_ne (tgt := 105) hx hb dX10_readCastle_97 (by decide) (fun c18 => ?_) (fun c18 => ?_)
                · replace hm := ite_f c18 hm
                  refine lv_aload_n hx hb dX10_readCastle_105 rfl (lv_at hl 0 rfl) ?_
                  refine lv_dup hx hb dX10_readCastle_106 rfl ?_
                  refine va_get (D := (dC, dI)) (ci := 8) (v := .int w7) (C := RX10) (T := TX10) (N := 31) hx hb hts iX10 hown hK hP 0 rfl rfl 3 (by decide) f79 (fun _ h9 => h9) rfl dX10_readCastle_107 ?_
                  refine lv_iconst (v := (1 : Int32)) hx hb dX10_readCastle_110 (by decide) ?_
                  refine lv_iadd hx hb dX10_readCastle_111 ?_
                  refine lv_topi (fun x19 ex19 => ?_)
                  replace hm := nm_t ex19 hm
                  refine va_put (D := (dC, dI)) (ci := 8) (v := .int x19) (ty := .int) (C := RX10) (T := TX10) (N := 31) hx hb hts iX10 tyX10 tyX10_ok nmX10 hown hK hP (kb_D hD rfl) hS 0 rfl rfl 3 (by decide) f79 (fun _ h9 => h9) rfl (by decide +kernel) rfl rfl (Nat.le_of_ble_eq_true rfl) dX10_readCastle_112 (fun H locs hP _ hS => ?_)
                  have hP : va_P (dC, dI) vwCl [oX10 a_th (.int v_thrown) (.ref a_text) (.int v_textSize) (.int x19) q_question (.int v_questionSize) (.int v_facts) (.int v_isSo) (.int v_common) (.int w8) (.int w9) (.int w10) (.int r3) q_page (.long v_seed) q_book q_bookSeed (.int v_acts) q_kept q_isKept (.int v_told) q_toldSimple q_toldDay q_toldYes q_yesOf q_noOf q_factOf q_stack q_one q_two q_three, aI cI a_text 24 v_text] H := hP
                  refine lv_aload_n hx hb dX10_readCastle_115 rfl (lv_at hl 0 rfl) ?_
                  refine lv_iconst (v := (0 : Int32)) hx hb dX10_readCastle_116 (by decide) ?_
                  refine lv_iconst (v := (1 : Int32)) hx hb dX10_readCastle_117 (by decide) ?_
                  obtain ⟨r20, w21, ho22, hm⟩ := bd2_s hm
                  refine kb_calli (Rv := r20) (va_runV (As := [.int (0 : Int32), .int (1 : Int32)]) (rest := []) ⟨hx, hb, hml, hown, hts⟩ (c_X10_figure l dC dI cI cJ cZ cQ t H.size a_th a_text q_question q_page q_book q_bookSeed q_kept q_isKept q_toldSimple q_toldDay q_toldYes q_yesOf q_noOf q_factOf q_stack q_one q_two q_three v_thrown v_textSize x19 v_questionSize v_facts v_isSo v_common w8 w9 w10 r3 v_seed v_acts v_told v_text (0 : Int32) (1 : Int32) (r20, w21) ho22) (cwV 2 hts gX10_readCastle_X10_figure rfl rfl rfl (by decide +kernel) ⟨(Nat.le_of_ble_eq_true rfl), (Nat.le_of_ble_eq_true rfl)⟩) ⟨(kb_pre hK hG hP (kb_D hD rfl) hS hA [0, 1] rfl (by decide)).1, (va_recv hK hP (ci := 8) (q0 := 0) rfl rfl), (kb_pre hK hG hP (kb_D hD rfl) hS hA [0, 1] rfl (by decide)).2⟩ rfl rfl hl.1 rfl (lv_room (Nat.le_of_ble_eq_true rfl)) dX10_readCastle_118 ⟨Nat.zero_le _, Nat.zero_le _⟩) hP (kb_D hD rfl) hS hA [0, 1] rfl [(true, 0), (true, 1)] (w2 := [oX10 a_th (.int v_thrown) (.ref a_text) (.int v_textSize) (.int w21) q_question (.int v_questionSize) (.int v_facts) (.int v_isSo) (.int v_common) (.int w8) (.int w9) (.int w10) (.int r3) q_page (.long v_seed) q_book q_bookSeed (.int v_acts) q_kept q_isKept (.int v_told) q_toldSimple q_toldDay q_toldYes q_yesOf q_noOf q_factOf q_stack q_one q_two q_three, aI cI a_text 24 v_text]) rfl (by decide) (fun H locs hP hS => ?_)
                  refine lv_istore_n (lv' := [(1, .int r20), (0, .ref a_th)]) hx hb dX10_readCastle_121 rfl hl (by decide) rfl (fun ls hl => ?_)
                  refine lv_iload_n hx hb dX10_readCastle_122 rfl (lv_at hl 0 rfl) ?_
                  refine lv_bipush (v := (-9 : Int32)) hx hb dX10_readCastle_123 (by decide) ?_
                  obtain ⟨k139, ek139, hm⟩ := nm_s hm
                  have J139 : ∀ (x23 : Int32) (w24 : Int32) (H : Heap) (locs : List Loc) (ls : Array Slot), k139 x23 w24 = some o → va_P (dC, dI) vwCl [oX10 a_th (.int v_thrown) (.ref a_text) (.int v_textSize) (.int w24) q_question (.int v_questionSize) (.int v_facts) (.int v_isSo) (.int v_common) (.int w8) (.int w9) (.int w10) (.int r3) q_page (.long v_seed) q_book q_bookSeed (.int v_acts) q_kept q_isKept (.int v_told) q_toldSimple q_toldDay q_toldYes q_yesOf q_noOf q_factOf q_stack q_one q_two q_three, aI cI a_text 24 v_text] H → va_S A s.heap H locs → lv_has ls 3 [(0, .ref a_th), (1, .int r20)] → W p l e (headSpec wsX10_readCastle { frames := 2, cells := 0, slots := 0, locals := 47 }).room s m [.ref a_th].toArray below meth c H locs 0 0 Q (F0 m 139 ls [.int x23]) := by
                    intro x23 w24 H locs ls hm hP hS hl
                    rw [ek139] at hm
                    refine lv_istore_n (lv' := [(2, .int x23), (0, .ref a_th), (1, .int r20)]) hx hb dX10_readCastle_139 rfl hl (by decide) rfl (fun ls hl => ?_)
                    refine lv_iload_n hx hb dX10_readCastle_140 rfl (lv_at hl 0 rfl) ?_
                    refine lv_bipush (v := (-9 : Int32)) hx hb dX10_readCastle_141 (by decide) ?_
                    refine lv_icmp_ne (tgt := 151) hx hb dX10_readCastle_143 (by decide) (fun c25 => ?_) (fun c25 => ?_)
                    · replace hm := ite_f c25 hm
                      refine lv_aload_n hx hb dX10_readCastle_151 rfl (lv_at hl 1 rfl) ?_
                      refine lv_dup hx hb dX10_readCastle_152 rfl ?_
                      refine va_get (D := (dC, dI)) (ci := 8) (v := .int w9) (C := RX10) (T := TX10) (N := 31) hx hb hts iX10 hown hK hP 0 rfl rfl 10 (by decide) f85 (fun _ h9 => h9) rfl dX10_readCastle_153 ?_
                      refine lv_iload_n hx hb dX10_readCastle_156 rfl (lv_at hl 2 rfl) ?_
                      refine lv_aload_n hx hb dX10_readCastle_157 rfl (lv_at hl 1 rfl) ?_
                      refine va_get (D := (dC, dI)) (ci := 8) (v := .int w8) (C := RX10) (T := TX10) (N := 31) hx hb hts iX10 hown hK hP 0 rfl rfl 9 (by decide) f82 (fun _ h9 => h9) rfl dX10_readCastle_158 ?_
                      refine lv_ishl hx hb dX10_readCastle_161 ?_
                      refine lv_ior hx hb dX10_readCastle_162 ?_
                      refine lv_topi (fun x26 ex26 => ?_)
                      replace hm := nm_t ex26 hm
                      refine va_put (D := (dC, dI)) (ci := 8) (v := .int x26) (ty := .int) (C := RX10) (T := TX10) (N := 31) hx hb hts iX10 tyX10 tyX10_ok nmX10 hown hK hP (kb_D hD rfl) hS 0 rfl rfl 10 (by decide) f85 (fun _ h9 => h9) rfl (by decide +kernel) rfl rfl (Nat.le_of_ble_eq_true rfl) dX10_readCastle_163 (fun H locs hP _ hS => ?_)
                      have hP : va_P (dC, dI) vwCl [oX10 a_th (.int v_thrown) (.ref a_text) (.int v_textSize) (.int w24) q_question (.int v_questionSize) (.int v_facts) (.int v_isSo) (.int v_common) (.int w8) (.int x26) (.int w10) (.int r3) q_page (.long v_seed) q_book q_bookSeed (.int v_acts) q_kept q_isKept (.int v_told) q_toldSimple q_toldDay q_toldYes q_yesOf q_noOf q_factOf q_stack q_one q_two q_three, aI cI a_text 24 v_text] H := hP
                      refine lv_aload_n hx hb dX10_readCastle_166 rfl (lv_at hl 1 rfl) ?_
                      refine lv_dup hx hb dX10_readCastle_167 rfl ?_
                      refine va_get (D := (dC, dI)) (ci := 8) (v := .int w10) (C := RX10) (T := TX10) (N := 31) hx hb hts iX10 hown hK hP 0 rfl rfl 11 (by decide) f88 (fun _ h9 => h9) rfl dX10_readCastle_168 ?_
                      refine lv_iload_n hx hb dX10_readCastle_171 rfl (lv_at hl 0 rfl) ?_
                      refine lv_aload_n hx hb dX10_readCastle_172 rfl (lv_at hl 1 rfl) ?_
                      refine va_get (D := (dC, dI)) (ci := 8) (v := .int w8) (C := RX10) (T := TX10) (N := 31) hx hb hts iX10 hown hK hP 0 rfl rfl 9 (by decide) f82 (fun _ h9 => h9) rfl dX10_readCastle_173 ?_
                      refine lv_ishl hx hb dX10_readCastle_176 ?_
                      refine lv_ior hx hb dX10_readCastle_177 ?_
                      refine lv_topi (fun x27 ex27 => ?_)
                      replace hm := nm_t ex27 hm
                      refine va_put (D := (dC, dI)) (ci := 8) (v := .int x27) (ty := .int) (C := RX10) (T := TX10) (N := 31) hx hb hts iX10 tyX10 tyX10_ok nmX10 hown hK hP (kb_D hD rfl) hS 0 rfl rfl 11 (by decide) f88 (fun _ h9 => h9) rfl (by decide +kernel) rfl rfl (Nat.le_of_ble_eq_true rfl) dX10_readCastle_178 (fun H locs hP _ hS => ?_)
                      have hP : va_P (dC, dI) vwCl [oX10 a_th (.int v_thrown) (.ref a_text) (.int v_textSize) (.int w24) q_question (.int v_questionSize) (.int v_facts) (.int v_isSo) (.int v_common) (.int w8) (.int x26) (.int x27) (.int r3) q_page (.long v_seed) q_book q_bookSeed (.int v_acts) q_kept q_isKept (.int v_told) q_toldSimple q_toldDay q_toldYes q_yesOf q_noOf q_factOf q_stack q_one q_two q_three, aI cI a_text 24 v_text] H := hP
                      refine lv_aload_n hx hb dX10_readCastle_181 rfl (lv_at hl 1 rfl) ?_
                      refine lv_dup hx hb dX10_readCastle_182 rfl ?_
                      refine va_get (D := (dC, dI)) (ci := 8) (v := .int w8) (C := RX10) (T := TX10) (N := 31) hx hb hts iX10 hown hK hP 0 rfl rfl 9 (by decide) f82 (fun _ h9 => h9) rfl dX10_readCastle_183 ?_
                      refine lv_iconst (v := (1 : Int32)) hx hb dX10_readCastle_186 (by decide) ?_
                      refine lv_iadd hx hb dX10_readCastle_187 ?_
                      refine lv_topi (fun x28 ex28 => ?_)
                      replace hm := nm_t ex28 hm
                      refine va_put (D := (dC, dI)) (ci := 8) (v := .int x28) (ty := .int) (C := RX10) (T := TX10) (N := 31) hx hb hts iX10 tyX10 tyX10_ok nmX10 hown hK hP (kb_D hD rfl) hS 0 rfl rfl 9 (by decide) f82 (fun _ h9 => h9) rfl (by decide +kernel) rfl rfl (Nat.le_of_ble_eq_true rfl) dX10_readCastle_188 (fun H locs hP _ hS => ?_)
                      have hP : va_P (dC, dI) vwCl [oX10 a_th (.int v_thrown) (.ref a_text) (.int v_textSize) (.int w24) q_question (.int v_questionSize) (.int v_facts) (.int v_isSo) (.int v_common) (.int x28) (.int x26) (.int x27) (.int r3) q_page (.long v_seed) q_book q_bookSeed (.int v_acts) q_kept q_isKept (.int v_told) q_toldSimple q_toldDay q_toldYes q_yesOf q_noOf q_factOf q_stack q_one q_two q_three, aI cI a_text 24 v_text] H := hP
                      refine lv_goto (tgt := 67) hx hb dX10_readCastle_191 (by decide) ?_
                      exact ih67 w24 x28 x26 x27 k67 _ _ _ hm hk67 hP hS (lv_sub hl [1] rfl)
                    · replace hm := ite_t c25 hm
                      refine lv_aload_n hx hb dX10_readCastle_146 rfl (lv_at hl 1 rfl) ?_
                      refine va_get (D := (dC, dI)) (ci := 8) (v := .int w24) (C := RX10) (T := TX10) (N := 31) hx hb hts iX10 hown hK hP 0 rfl rfl 3 (by decide) f79 (fun _ h9 => h9) rfl dX10_readCastle_147 ?_
                      obtain rfl := Option.some.inj hm
                      subst hQ
                      exact W.iret hx hb hr (fun t ht hW => ⟨⟨_, (), rfl, rfl, kb_h hP ht⟩, hS.F ht⟩) hS.2.2 dX10_readCastle_150
                  refine lv_icmp_ne (tgt := 133) hx hb dX10_readCastle_125 (by decide) (fun c29 => ?_) (fun c29 => ?_)
                  · replace hm := ite_f c29 hm
                    refine lv_aload_n hx hb dX10_readCastle_133 rfl (lv_at hl 1 rfl) ?_
                    refine lv_iconst (v := (0 : Int32)) hx hb dX10_readCastle_134 (by decide) ?_
                    refine lv_iconst (v := (1 : Int32)) hx hb dX10_readCastle_135 (by decide) ?_
                    obtain ⟨r30, w31, ho32, hm⟩ := bd2_s hm
                    refine kb_calli (Rv := r30) (va_runV (As := [.int (0 : Int32), .int (1 : Int32)]) (rest := []) ⟨hx, hb, hml, hown, hts⟩ (c_X10_figure l dC dI cI cJ cZ cQ t H.size a_th a_text q_question q_page q_book q_bookSeed q_kept q_isKept q_toldSimple q_toldDay q_toldYes q_yesOf q_noOf q_factOf q_stack q_one q_two q_three v_thrown v_textSize w21 v_questionSize v_facts v_isSo v_common w8 w9 w10 r3 v_seed v_acts v_told v_text (0 : Int32) (1 : Int32) (r30, w31) ho32) (cwV 2 hts gX10_readCastle_X10_figure rfl rfl rfl (by decide +kernel) ⟨(Nat.le_of_ble_eq_true rfl), (Nat.le_of_ble_eq_true rfl)⟩) ⟨(kb_pre hK hG hP (kb_D hD rfl) hS hA [0, 1] rfl (by decide)).1, (va_recv hK hP (ci := 8) (q0 := 0) rfl rfl), (kb_pre hK hG hP (kb_D hD rfl) hS hA [0, 1] rfl (by decide)).2⟩ rfl rfl hl.1 rfl (lv_room (Nat.le_of_ble_eq_true rfl)) dX10_readCastle_136 ⟨Nat.zero_le _, Nat.zero_le _⟩) hP (kb_D hD rfl) hS hA [0, 1] rfl [(true, 0), (true, 1)] (w2 := [oX10 a_th (.int v_thrown) (.ref a_text) (.int v_textSize) (.int w31) q_question (.int v_questionSize) (.int v_facts) (.int v_isSo) (.int v_common) (.int w8) (.int w9) (.int w10) (.int r3) q_page (.long v_seed) q_book q_bookSeed (.int v_acts) q_kept q_isKept (.int v_told) q_toldSimple q_toldDay q_toldYes q_yesOf q_noOf q_factOf q_stack q_one q_two q_three, aI cI a_text 24 v_text]) rfl (by decide) (fun H locs hP hS => ?_)
                    exact J139 r30 w31 _ _ _ hm hP hS (lv_sub hl [1, 0] rfl)
                  · replace hm := ite_t c29 hm
                    refine lv_bipush (v := (-9 : Int32)) hx hb dX10_readCastle_128 (by decide) ?_
                    refine lv_goto (tgt := 139) hx hb dX10_readCastle_130 (by decide) ?_
                    exact J139 (-9 : Int32) w21 _ _ _ hm hP hS (lv_sub hl [1, 0] rfl)
                · replace hm := ite_t c18 hm
                  exact J100  _ _ _ hm hP hS (lv_sub hl [0] rfl)
        refine lp67 1024 w4 (0 : Int32) (0 : Int32) (0 : Int32) _ _ _ _ hm (fun w11 w12 w13 w14 H locs ls hm hP hS hl => ?_) hP hS (lv_sub hl [0] rfl)
        refine lv_bipush (v := (-9 : Int32)) hx hb dX10_readCastle_194 (by decide) ?_
        obtain rfl := Option.some.inj hm
        subst hQ
        exact W.iret hx hb hr (fun t ht hW => ⟨⟨_, (), rfl, rfl, kb_h hP ht⟩, hS.F ht⟩) hS.2.2 dX10_readCastle_196
      · replace hm := ite_t c6 hm
        refine lv_iconst (v := (1 : Int32)) hx hb dX10_readCastle_65 (by decide) ?_
        obtain rfl := Option.some.inj hm
        subst hQ
        exact W.iret hx hb hr (fun t ht hW => ⟨⟨_, (), rfl, rfl, kb_h hP ht⟩, hS.F ht⟩) hS.2.2 dX10_readCastle_66
    · replace hm := ite_f c2 hm
      refine lv_iconst (v := (0 : Int32)) hx hb dX10_readCastle_38 (by decide) ?_
      obtain rfl := Option.some.inj hm
      subst hQ
      exact W.iret hx hb hr (fun t ht hW => ⟨⟨_, (), rfl, rfl, kb_h hP ht⟩, hS.F ht⟩) hS.2.2 dX10_readCastle_39
set_option maxHeartbeats 4000000 in
set_option maxRecDepth 100000 in
theorem c_X10_fault (l : Launch) (dC : Nat → ClassId) (dI : Nat → Nat → Nat) (cI cJ cZ cQ : ClassId) (t sz : Nat) (a_th : Nat) (a_text : Nat) (q_question : Value) (q_page : Value) (q_book : Value) (q_bookSeed : Value) (q_kept : Value) (q_isKept : Value) (q_toldSimple : Value) (q_toldDay : Value) (q_toldYes : Value) (q_yesOf : Value) (q_noOf : Value) (q_factOf : Value) (q_stack : Value) (q_one : Value) (q_two : Value) (q_three : Value) (v_thrown : Int32) (v_textSize : Int32) (v_place : Int32) (v_questionSize : Int32) (v_facts : Int32) (v_isSo : Int32) (v_common : Int32) (v_readFacts : Int32) (v_readSo : Int32) (v_readCommon : Int32) (v_readDay : Int32) (v_seed : Int64) (v_acts : Int32) (v_told : Int32) (v_text : (Nat → Int32)) (o : Int32 × Int32 × Int32 × Int32 × Int32 × Int32 × Int32) (hm : m_X10_fault v_thrown v_textSize v_place v_readFacts v_readSo v_readCommon v_readDay v_text = some o) : Met l yX10_fault wsX10_fault { frames := 3, cells := 0, slots := 0, locals := 69 } (va_Pc [.ref a_th] (cP (dC, dI) (kT cI cJ cZ cQ) t sz [oX10 a_th (.int v_thrown) (.ref a_text) (.int v_textSize) (.int v_place) q_question (.int v_questionSize) (.int v_facts) (.int v_isSo) (.int v_common) (.int v_readFacts) (.int v_readSo) (.int v_readCommon) (.int v_readDay) q_page (.long v_seed) q_book q_bookSeed (.int v_acts) q_kept q_isKept (.int v_told) q_toldSimple q_toldDay q_toldYes q_yesOf q_noOf q_factOf q_stack q_one q_two q_three, aI cI a_text 24 v_text])) (cQi (dC, dI) (va_A [oX10 a_th (.int v_thrown) (.ref a_text) (.int v_textSize) (.int v_place) q_question (.int v_questionSize) (.int v_facts) (.int v_isSo) (.int v_common) (.int v_readFacts) (.int v_readSo) (.int v_readCommon) (.int v_readDay) q_page (.long v_seed) q_book q_bookSeed (.int v_acts) q_kept q_isKept (.int v_told) q_toldSimple q_toldDay q_toldYes q_yesOf q_noOf q_factOf q_stack q_one q_two q_three, aI cI a_text 24 v_text] sz) o.1 [oX10 a_th (.int (o.2.1)) (.ref a_text) (.int v_textSize) (.int (o.2.2.1)) q_question (.int v_questionSize) (.int v_facts) (.int v_isSo) (.int v_common) (.int (o.2.2.2.1)) (.int (o.2.2.2.2.1)) (.int (o.2.2.2.2.2.1)) (.int (o.2.2.2.2.2.2)) q_page (.long v_seed) q_book q_bookSeed (.int v_acts) q_kept q_isKept (.int v_told) q_toldSimple q_toldDay q_toldYes q_yesOf q_noOf q_factOf q_stack q_one q_two q_three, aI cI a_text 24 v_text]) 0 0 (va_A [oX10 a_th (.int v_thrown) (.ref a_text) (.int v_textSize) (.int v_place) q_question (.int v_questionSize) (.int v_facts) (.int v_isSo) (.int v_common) (.int v_readFacts) (.int v_readSo) (.int v_readCommon) (.int v_readDay) q_page (.long v_seed) q_book q_bookSeed (.int v_acts) q_kept q_isKept (.int v_told) q_toldSimple q_toldDay q_toldYes q_yesOf q_noOf q_factOf q_stack q_one q_two q_three, aI cI a_text 24 v_text] sz) := by
  refine Met.ofW (cc := cX10_fault) (maxL := 1) (ret := (some .int)) (by decide) rfl ?_
  intro p e s m args below meth c s₁ B hml hv
  obtain ⟨rfl, hsz, hP, hK, hD0, hG⟩ := hv
  have hx := B.exec
  have hb := B.bytes
  have hr := B.returns
  have hts := atoms_spec (ws := wsX10_fault) B.pre
  have hown : s.vm.findClass RX10 = some m.cls := findClass_of_methodNamed B.named
  have hlocks := B.notSynchronized
  subst hsz
  have hD := hD0.self (sz := s.heap.size)
  generalize hAe : va_A [oX10 a_th (.int v_thrown) (.ref a_text) (.int v_textSize) (.int v_place) q_question (.int v_questionSize) (.int v_facts) (.int v_isSo) (.int v_common) (.int v_readFacts) (.int v_readSo) (.int v_readCommon) (.int v_readDay) q_page (.long v_seed) q_book q_bookSeed (.int v_acts) q_kept q_isKept (.int v_told) q_toldSimple q_toldDay q_toldYes q_yesOf q_noOf q_factOf q_stack q_one q_two q_three, aI cI a_text 24 v_text] s.heap.size = A at hD hG ⊢
  have hA : ∀ q : Nat, s.heap.size ≤ q → A q := fun q h => by rw [← hAe]; exact Or.inr h
  have hS : va_S A s.heap s.heap [] := va_S.rf
  have hl := lv_entry ([.ref a_th]) (n := 1) (Nat.le_of_ble_eq_true rfl)
  rw [lg_entry_eq]
  generalize (lg_sl ([.ref a_th]) ++ List.replicate (1 - (lg_sl ([.ref a_th])).length) Slot.unset).toArray = ls at hl ⊢
  have hl : lv_has ls 1 [(0, .ref a_th)] := hl
  have iX10 : ∀ w ∈ wsX100, w ∈ wsX10_fault := fun _ h => List.mem_cons_of_mem _ (List.mem_append_right _ h)
  have f66 := hts (.fieldLink RX10 66 "TrueOnceWeekModel" "thrown" "I") (by decide +kernel)
  refine kb_gen (fun Q hQ => ?_)
  unfold m_X10_fault at hm
  refine lv_aload_n hx hb dX10_fault_0 rfl (lv_at hl 0 rfl) ?_
  refine lv_iconst (v := (0 : Int32)) hx hb dX10_fault_1 (by decide) ?_
  refine va_put (D := (dC, dI)) (ci := 8) (v := .int (0 : Int32)) (ty := .int) (C := RX10) (T := TX10) (N := 31) hx hb hts iX10 tyX10 tyX10_ok nmX10 hown hK hP (kb_D hD rfl) hS 0 rfl rfl 0 (by decide) f66 (fun _ h9 => h9) rfl (by decide +kernel) rfl rfl (Nat.le_of_ble_eq_true rfl) dX10_fault_2 (fun H locs hP _ hS => ?_)
  have hP : va_P (dC, dI) vwCl [oX10 a_th (.int (0 : Int32)) (.ref a_text) (.int v_textSize) (.int v_place) q_question (.int v_questionSize) (.int v_facts) (.int v_isSo) (.int v_common) (.int v_readFacts) (.int v_readSo) (.int v_readCommon) (.int v_readDay) q_page (.long v_seed) q_book q_bookSeed (.int v_acts) q_kept q_isKept (.int v_told) q_toldSimple q_toldDay q_toldYes q_yesOf q_noOf q_factOf q_stack q_one q_two q_three, aI cI a_text 24 v_text] H := hP
  refine lv_aload_n hx hb dX10_fault_5 rfl (lv_at hl 0 rfl) ?_
  obtain ⟨r1, w2, w3, w4, w5, w6, ho7, hm⟩ := bd6_s hm
  refine kb_calli (Rv := r1) (va_runV (As := []) (rest := []) ⟨hx, hb, hml, hown, hts⟩ (c_X10_readCastle l dC dI cI cJ cZ cQ t H.size a_th a_text q_question q_page q_book q_bookSeed q_kept q_isKept q_toldSimple q_toldDay q_toldYes q_yesOf q_noOf q_factOf q_stack q_one q_two q_three (0 : Int32) v_textSize v_place v_questionSize v_facts v_isSo v_common v_readFacts v_readSo v_readCommon v_readDay v_seed v_acts v_told v_text (r1, w2, w3, w4, w5, w6) ho7) (cwV 0 hts gX10_fault_X10_readCastle rfl rfl rfl (by decide +kernel) ⟨(Nat.le_of_ble_eq_true rfl), (Nat.le_of_ble_eq_true rfl)⟩) ⟨(kb_pre hK hG hP (kb_D hD rfl) hS hA [0, 1] rfl (by decide)).1, (va_recv hK hP (ci := 8) (q0 := 0) rfl rfl), (kb_pre hK hG hP (kb_D hD rfl) hS hA [0, 1] rfl (by decide)).2⟩ rfl rfl hl.1 rfl (lv_room (Nat.le_of_ble_eq_true rfl)) dX10_fault_6 ⟨Nat.zero_le _, Nat.zero_le _⟩) hP (kb_D hD rfl) hS hA [0, 1] rfl [(true, 0), (true, 1)] (w2 := [oX10 a_th (.int (0 : Int32)) (.ref a_text) (.int v_textSize) (.int w2) q_question (.int v_questionSize) (.int v_facts) (.int v_isSo) (.int v_common) (.int w3) (.int w4) (.int w5) (.int w6) q_page (.long v_seed) q_book q_bookSeed (.int v_acts) q_kept q_isKept (.int v_told) q_toldSimple q_toldDay q_toldYes q_yesOf q_noOf q_factOf q_stack q_one q_two q_three, aI cI a_text 24 v_text]) rfl (by decide) (fun H locs hP hS => ?_)
  obtain rfl := Option.some.inj hm
  subst hQ
  exact W.iret hx hb hr (fun t ht hW => ⟨⟨_, (), rfl, rfl, kb_h hP ht⟩, hS.F ht⟩) hS.2.2 dX10_fault_9
set_option maxHeartbeats 4000000 in
set_option maxRecDepth 100000 in
theorem c_X10_has (l : Launch) (dC : Nat → ClassId) (dI : Nat → Nat → Nat) (cI cJ cZ cQ : ClassId) (t sz : Nat) (p_0 : Int32) (p_1 : Int32) (o : Int32) (hm : m_X10_has p_0 p_1 = some o) : Met l yX10_has wsX10_has { frames := 0, cells := 0, slots := 0, locals := 0 } (va_Pc [.int p_0, .int p_1] (cP (dC, dI) (kT cI cJ cZ cQ) t sz [])) (cQi (dC, dI) (va_A [] sz) o []) 0 0 (va_A [] sz) := by
  refine Met.ofW (cc := cX10_has) (maxL := 2) (ret := (some .boolean)) (by decide) rfl ?_
  intro p e s m args below meth c s₁ B hml hv
  obtain ⟨rfl, hsz, hP, hK, hD0, hG⟩ := hv
  have hx := B.exec
  have hb := B.bytes
  have hr := B.returns
  have hts := atoms_spec (ws := wsX10_has) B.pre
  have hown : s.vm.findClass RX10 = some m.cls := findClass_of_methodNamed B.named
  have hlocks := B.notSynchronized
  subst hsz
  have hD := hD0.self (sz := s.heap.size)
  generalize hAe : va_A [] s.heap.size = A at hD hG ⊢
  have hA : ∀ q : Nat, s.heap.size ≤ q → A q := fun q h => by rw [← hAe]; exact Or.inr h
  have hS : va_S A s.heap s.heap [] := va_S.rf
  have hl := lv_entry ([.int p_0, .int p_1]) (n := 2) (Nat.le_of_ble_eq_true rfl)
  rw [lg_entry_eq]
  generalize (lg_sl ([.int p_0, .int p_1]) ++ List.replicate (2 - (lg_sl ([.int p_0, .int p_1])).length) Slot.unset).toArray = ls at hl ⊢
  have hl : lv_has ls 2 [(0, .int p_0), (1, .int p_1)] := hl
  refine kb_gen (fun Q hQ => ?_)
  unfold m_X10_has at hm
  refine lv_iload_n hx hb dX10_has_0 rfl (lv_at hl 0 rfl) ?_
  refine lv_iload_n hx hb dX10_has_1 rfl (lv_at hl 1 rfl) ?_
  refine lv_ishr hx hb dX10_has_2 ?_
  refine lv_iconst (v := (1 : Int32)) hx hb dX10_has_3 (by decide) ?_
  refine lv_iand hx hb dX10_has_4 ?_
  refine lv_iconst (v := (1 : Int32)) hx hb dX10_has_5 (by decide) ?_
  refine lv_icmp_ne (tgt := 13) hx hb dX10_has_6 (by decide) (fun c1 => ?_) (fun c1 => ?_)
  · replace hm := ite_f c1 hm
    refine lv_iconst (v := (0 : Int32)) hx hb dX10_has_13 (by decide) ?_
    obtain rfl := Option.some.inj hm
    subst hQ
    exact W.zret hx hb hr rfl (fun t ht hW => ⟨⟨_, (), rfl, rfl, kb_h hP ht⟩, hS.F ht⟩) hS.2.2 dX10_has_14
  · replace hm := ite_t c1 hm
    refine lv_iconst (v := (1 : Int32)) hx hb dX10_has_9 (by decide) ?_
    refine lv_goto (tgt := 14) hx hb dX10_has_10 (by decide) ?_
    obtain rfl := Option.some.inj hm
    subst hQ
    exact W.zret hx hb hr rfl (fun t ht hW => ⟨⟨_, (), rfl, rfl, kb_h hP ht⟩, hS.F ht⟩) hS.2.2 dX10_has_14
set_option maxHeartbeats 4000000 in
set_option maxRecDepth 100000 in
theorem c_X10_wants (l : Launch) (dC : Nat → ClassId) (dI : Nat → Nat → Nat) (cI cJ cZ cQ : ClassId) (t sz : Nat) (a_th : Nat) (q_text : Value) (q_question : Value) (q_page : Value) (q_book : Value) (q_bookSeed : Value) (q_kept : Value) (q_isKept : Value) (q_toldSimple : Value) (q_toldDay : Value) (q_toldYes : Value) (q_yesOf : Value) (q_noOf : Value) (q_factOf : Value) (q_stack : Value) (q_one : Value) (q_two : Value) (q_three : Value) (v_thrown : Int32) (v_textSize : Int32) (v_place : Int32) (v_questionSize : Int32) (v_facts : Int32) (v_isSo : Int32) (v_common : Int32) (v_readFacts : Int32) (v_readSo : Int32) (v_readCommon : Int32) (v_readDay : Int32) (v_seed : Int64) (v_acts : Int32) (v_told : Int32) (p_1 : Int32) (o : Int32) (hm : m_X10_wants p_1 v_facts = some o) : Met l yX10_wants wsX10_wants { frames := 1, cells := 0, slots := 0, locals := 25 } (va_Pc [.ref a_th, .int p_1] (cP (dC, dI) (kT cI cJ cZ cQ) t sz [oX10 a_th (.int v_thrown) q_text (.int v_textSize) (.int v_place) q_question (.int v_questionSize) (.int v_facts) (.int v_isSo) (.int v_common) (.int v_readFacts) (.int v_readSo) (.int v_readCommon) (.int v_readDay) q_page (.long v_seed) q_book q_bookSeed (.int v_acts) q_kept q_isKept (.int v_told) q_toldSimple q_toldDay q_toldYes q_yesOf q_noOf q_factOf q_stack q_one q_two q_three])) (cQi (dC, dI) (va_A [oX10 a_th (.int v_thrown) q_text (.int v_textSize) (.int v_place) q_question (.int v_questionSize) (.int v_facts) (.int v_isSo) (.int v_common) (.int v_readFacts) (.int v_readSo) (.int v_readCommon) (.int v_readDay) q_page (.long v_seed) q_book q_bookSeed (.int v_acts) q_kept q_isKept (.int v_told) q_toldSimple q_toldDay q_toldYes q_yesOf q_noOf q_factOf q_stack q_one q_two q_three] sz) o [oX10 a_th (.int v_thrown) q_text (.int v_textSize) (.int v_place) q_question (.int v_questionSize) (.int v_facts) (.int v_isSo) (.int v_common) (.int v_readFacts) (.int v_readSo) (.int v_readCommon) (.int v_readDay) q_page (.long v_seed) q_book q_bookSeed (.int v_acts) q_kept q_isKept (.int v_told) q_toldSimple q_toldDay q_toldYes q_yesOf q_noOf q_factOf q_stack q_one q_two q_three]) 0 0 (va_A [oX10 a_th (.int v_thrown) q_text (.int v_textSize) (.int v_place) q_question (.int v_questionSize) (.int v_facts) (.int v_isSo) (.int v_common) (.int v_readFacts) (.int v_readSo) (.int v_readCommon) (.int v_readDay) q_page (.long v_seed) q_book q_bookSeed (.int v_acts) q_kept q_isKept (.int v_told) q_toldSimple q_toldDay q_toldYes q_yesOf q_noOf q_factOf q_stack q_one q_two q_three] sz) := by
  refine Met.ofW (cc := cX10_wants) (maxL := 3) (ret := (some .int)) (by decide) rfl ?_
  intro p e s m args below meth c s₁ B hml hv
  obtain ⟨rfl, hsz, hP, hK, hD0, hG⟩ := hv
  have hx := B.exec
  have hb := B.bytes
  have hr := B.returns
  have hts := atoms_spec (ws := wsX10_wants) B.pre
  have hown : s.vm.findClass RX10 = some m.cls := findClass_of_methodNamed B.named
  have hlocks := B.notSynchronized
  subst hsz
  have hD := hD0.self (sz := s.heap.size)
  generalize hAe : va_A [oX10 a_th (.int v_thrown) q_text (.int v_textSize) (.int v_place) q_question (.int v_questionSize) (.int v_facts) (.int v_isSo) (.int v_common) (.int v_readFacts) (.int v_readSo) (.int v_readCommon) (.int v_readDay) q_page (.long v_seed) q_book q_bookSeed (.int v_acts) q_kept q_isKept (.int v_told) q_toldSimple q_toldDay q_toldYes q_yesOf q_noOf q_factOf q_stack q_one q_two q_three] s.heap.size = A at hD hG ⊢
  have hA : ∀ q : Nat, s.heap.size ≤ q → A q := fun q h => by rw [← hAe]; exact Or.inr h
  have hS : va_S A s.heap s.heap [] := va_S.rf
  have hl := lv_entry ([.ref a_th, .int p_1]) (n := 3) (Nat.le_of_ble_eq_true rfl)
  rw [lg_entry_eq]
  generalize (lg_sl ([.ref a_th, .int p_1]) ++ List.replicate (3 - (lg_sl ([.ref a_th, .int p_1])).length) Slot.unset).toArray = ls at hl ⊢
  have hl : lv_has ls 3 [(0, .ref a_th), (1, .int p_1)] := hl
  have iX10 : ∀ w ∈ wsX100, w ∈ wsX10_wants := fun _ h => List.mem_cons_of_mem _ (List.mem_append_right _ h)
  have f102 := hts (.fieldLink RX10 102 "TrueOnceWeekModel" "facts" "I") (by decide +kernel)
  have cl120 := hts (.constantLong RX10 120 (6 : Int64)) (by decide +kernel)
  refine kb_gen (fun Q hQ => ?_)
  unfold m_X10_wants at hm
  refine lv_iload_n hx hb dX10_wants_0 rfl (lv_at hl 1 rfl) ?_
  refine lv_bipush (v := (97 : Int32)) hx hb dX10_wants_1 (by decide) ?_
  refine lv_isub hx hb dX10_wants_3 ?_
  refine lv_i2l (v := (Int32.toInt64 (p_1 - (97 : Int32)))) hx hb dX10_wants_4 rfl ?_
  refine lv_lconst (v := (0 : Int64)) hx hb dX10_wants_5 (by decide) ?_
  refine lv_aload_n hx hb dX10_wants_6 rfl (lv_at hl 0 rfl) ?_
  refine va_get (D := (dC, dI)) (ci := 8) (v := .int v_facts) (C := RX10) (T := TX10) (N := 31) hx hb hts iX10 hown hK hP 0 rfl rfl 6 (by decide) f102 (fun _ h9 => h9) rfl dX10_wants_7 ?_
  refine lv_iconst (v := (1 : Int32)) hx hb dX10_wants_10 (by decide) ?_
  refine lv_isub hx hb dX10_wants_11 ?_
  refine lv_i2l (v := (Int32.toInt64 (v_facts - (1 : Int32)))) hx hb dX10_wants_12 rfl ?_
  obtain ⟨r1, ho2, hm⟩ := bd1_s hm
  refine kb_calli (Rv := r1) (va_runS (As := [.long (Int32.toInt64 (p_1 - (97 : Int32))), .long (0 : Int64), .long (Int32.toInt64 (v_facts - (1 : Int32)))]) (rest := []) ⟨hx, hb, hml, hown, hts⟩ (c_X10_in l dC dI cI cJ cZ cQ t s.heap.size (Int32.toInt64 (p_1 - (97 : Int32))) (0 : Int64) (Int32.toInt64 (v_facts - (1 : Int32))) (r1) ho2) (va_cwS 3 hts gX10_wants_X10_in rfl rfl rfl (by decide +kernel) ⟨(Nat.le_of_ble_eq_true rfl), (Nat.le_of_ble_eq_true rfl)⟩) (kb_pre hK hG hP (kb_D hD rfl) hS hA [] rfl (by decide)) rfl rfl hl.1 rfl (lv_room (Nat.le_of_ble_eq_true rfl)) dX10_wants_13 ⟨Nat.zero_le _, Nat.zero_le _⟩) hP (kb_D hD rfl) hS hA [] rfl [(false, 0)] (w2 := [oX10 a_th (.int v_thrown) q_text (.int v_textSize) (.int v_place) q_question (.int v_questionSize) (.int v_facts) (.int v_isSo) (.int v_common) (.int v_readFacts) (.int v_readSo) (.int v_readCommon) (.int v_readDay) q_page (.long v_seed) q_book q_bookSeed (.int v_acts) q_kept q_isKept (.int v_told) q_toldSimple q_toldDay q_toldYes q_yesOf q_noOf q_factOf q_stack q_one q_two q_three]) rfl (by decide) (fun H locs hP hS => ?_)
  obtain ⟨k51, ek51, hm⟩ := nm_s hm
  have J51 : ∀ (x3 : Int32) (H : Heap) (locs : List Loc) (ls : Array Slot), k51 x3 = some o → va_P (dC, dI) vwCl [oX10 a_th (.int v_thrown) q_text (.int v_textSize) (.int v_place) q_question (.int v_questionSize) (.int v_facts) (.int v_isSo) (.int v_common) (.int v_readFacts) (.int v_readSo) (.int v_readCommon) (.int v_readDay) q_page (.long v_seed) q_book q_bookSeed (.int v_acts) q_kept q_isKept (.int v_told) q_toldSimple q_toldDay q_toldYes q_yesOf q_noOf q_factOf q_stack q_one q_two q_three] H → va_S A s.heap H locs → lv_has ls 3 [(1, .int p_1)] → W p l e (headSpec wsX10_wants { frames := 1, cells := 0, slots := 0, locals := 25 }).room s m [.ref a_th, .int p_1].toArray below meth c H locs 0 0 Q (F0 m 51 ls [.int x3]) := by
    intro x3 H locs ls hm hP hS hl
    rw [ek51] at hm
    refine lv_istore_n (lv' := [(2, .int x3), (1, .int p_1)]) hx hb dX10_wants_51 rfl hl (by decide) rfl (fun ls hl => ?_)
    refine lv_iload_n hx hb dX10_wants_52 rfl (lv_at hl 0 rfl) ?_
    refine lv_if_eq (tgt := 60) hx hb dX10_wants_53 (by decide) (fun c4 => ?_) (fun c4 => ?_)
    · replace hm := ite_t c4 hm
      refine lv_iload_n hx hb dX10_wants_60 rfl (lv_at hl 1 rfl) ?_
      refine lv_bipush (v := (110 : Int32)) hx hb dX10_wants_61 (by decide) ?_
      refine lv_icmp_ne (tgt := 70) hx hb dX10_wants_63 (by decide) (fun c5 => ?_) (fun c5 => ?_)
      · replace hm := ite_f c5 hm
        refine lv_iload_n hx hb dX10_wants_70 rfl (lv_at hl 1 rfl) ?_
        refine lv_bipush (v := (38 : Int32)) hx hb dX10_wants_71 (by decide) ?_
        obtain ⟨k88, ek88, hm⟩ := nm_s hm
        have J88 : ∀ (H : Heap) (locs : List Loc) (ls : Array Slot), k88 = some o → va_P (dC, dI) vwCl [oX10 a_th (.int v_thrown) q_text (.int v_textSize) (.int v_place) q_question (.int v_questionSize) (.int v_facts) (.int v_isSo) (.int v_common) (.int v_readFacts) (.int v_readSo) (.int v_readCommon) (.int v_readDay) q_page (.long v_seed) q_book q_bookSeed (.int v_acts) q_kept q_isKept (.int v_told) q_toldSimple q_toldDay q_toldYes q_yesOf q_noOf q_factOf q_stack q_one q_two q_three] H → va_S A s.heap H locs → lv_has ls 3 [] → W p l e (headSpec wsX10_wants { frames := 1, cells := 0, slots := 0, locals := 25 }).room s m [.ref a_th, .int p_1].toArray below meth c H locs 0 0 Q (F0 m 88 ls []) := by
          intro  H locs ls hm hP hS hl
          rw [ek88] at hm
          refine lv_iconst (v := (2 : Int32)) hx hb dX10_wants_88 (by decide) ?_
          refine lv_goto (tgt := 94) hx hb dX10_wants_89 (by decide) ?_
          obtain rfl := Option.some.inj hm
          subst hQ
          exact W.iret hx hb hr (fun t ht hW => ⟨⟨_, (), rfl, rfl, kb_h hP ht⟩, hS.F ht⟩) hS.2.2 dX10_wants_94
        refine lv_icmp_eq (tgt := 88) hx hb dX10_wants_73 (by decide) (fun c6 => ?_) (fun c6 => ?_)
        · replace hm := ite_t c6 hm
          exact J88  _ _ _ hm hP hS (lv_sub hl [] rfl)
        · replace hm := ite_f c6 hm
          refine lv_iload_n hx hb dX10_wants_76 rfl (lv_at hl 1 rfl) ?_
          refine lv_bipush (v := (124 : Int32)) hx hb dX10_wants_77 (by decide) ?_
          refine lv_icmp_eq (tgt := 88) hx hb dX10_wants_79 (by decide) (fun c7 => ?_) (fun c7 => ?_)
          · replace hm := ite_t c7 hm
            exact J88  _ _ _ hm hP hS (lv_sub hl [] rfl)
          · replace hm := ite_f c7 hm
            refine lv_iload_n hx hb dX10_wants_82 rfl (lv_at hl 1 rfl) ?_
            refine lv_bipush (v := (94 : Int32)) hx hb dX10_wants_83 (by decide) ?_
            refine lv_icmp_ne (tgt := 92) hx hb dX10_wants_85 (by decide) (fun c8 => ?_) (fun c8 => ?_)
            · replace hm := ite_f c8 hm
              refine lv_bipush (v := (-9 : Int32)) hx hb dX10_wants_92 (by decide) ?_
              obtain rfl := Option.some.inj hm
              subst hQ
              exact W.iret hx hb hr (fun t ht hW => ⟨⟨_, (), rfl, rfl, kb_h hP ht⟩, hS.F ht⟩) hS.2.2 dX10_wants_94
            · replace hm := ite_t c8 hm
              exact J88  _ _ _ hm hP hS (lv_sub hl [] rfl)
      · replace hm := ite_t c5 hm
        refine lv_iconst (v := (1 : Int32)) hx hb dX10_wants_66 (by decide) ?_
        refine lv_goto (tgt := 94) hx hb dX10_wants_67 (by decide) ?_
        obtain rfl := Option.some.inj hm
        subst hQ
        exact W.iret hx hb hr (fun t ht hW => ⟨⟨_, (), rfl, rfl, kb_h hP ht⟩, hS.F ht⟩) hS.2.2 dX10_wants_94
    · replace hm := ite_f c4 hm
      refine lv_iconst (v := (0 : Int32)) hx hb dX10_wants_56 (by decide) ?_
      refine lv_goto (tgt := 94) hx hb dX10_wants_57 (by decide) ?_
      obtain rfl := Option.some.inj hm
      subst hQ
      exact W.iret hx hb hr (fun t ht hW => ⟨⟨_, (), rfl, rfl, kb_h hP ht⟩, hS.F ht⟩) hS.2.2 dX10_wants_94
  obtain ⟨k46, ek46, hm⟩ := nm_s hm
  have J46 : ∀ (H : Heap) (locs : List Loc) (ls : Array Slot), k46 = some o → va_P (dC, dI) vwCl [oX10 a_th (.int v_thrown) q_text (.int v_textSize) (.int v_place) q_question (.int v_questionSize) (.int v_facts) (.int v_isSo) (.int v_common) (.int v_readFacts) (.int v_readSo) (.int v_readCommon) (.int v_readDay) q_page (.long v_seed) q_book q_bookSeed (.int v_acts) q_kept q_isKept (.int v_told) q_toldSimple q_toldDay q_toldYes q_yesOf q_noOf q_factOf q_stack q_one q_two q_three] H → va_S A s.heap H locs → lv_has ls 3 [(1, .int p_1)] → W p l e (headSpec wsX10_wants { frames := 1, cells := 0, slots := 0, locals := 25 }).room s m [.ref a_th, .int p_1].toArray below meth c H locs 0 0 Q (F0 m 46 ls []) := by
    intro  H locs ls hm hP hS hl
    rw [ek46] at hm
    refine lv_iconst (v := (1 : Int32)) hx hb dX10_wants_46 (by decide) ?_
    refine lv_goto (tgt := 51) hx hb dX10_wants_47 (by decide) ?_
    exact J51 (1 : Int32) _ _ _ hm hP hS (lv_sub hl [0] rfl)
  refine lv_if_ne (tgt := 46) hx hb dX10_wants_16 (by decide) (fun c9 => ?_) (fun c9 => ?_)
  · replace hm := ite_f c9 hm
    exact J46  _ _ _ hm hP hS (lv_sub hl [1] rfl)
  · replace hm := ite_t c9 hm
    refine lv_iload_n hx hb dX10_wants_19 rfl (lv_at hl 1 rfl) ?_
    refine lv_bipush (v := (116 : Int32)) hx hb dX10_wants_20 (by decide) ?_
    refine lv_icmp_eq (tgt := 46) hx hb dX10_wants_22 (by decide) (fun c10 => ?_) (fun c10 => ?_)
    · replace hm := ite_t c10 hm
      exact J46  _ _ _ hm hP hS (lv_sub hl [1] rfl)
    · replace hm := ite_f c10 hm
      refine lv_iload_n hx hb dX10_wants_25 rfl (lv_at hl 1 rfl) ?_
      refine lv_bipush (v := (48 : Int32)) hx hb dX10_wants_26 (by decide) ?_
      refine lv_isub hx hb dX10_wants_28 ?_
      refine lv_i2l (v := (Int32.toInt64 (p_1 - (48 : Int32)))) hx hb dX10_wants_29 rfl ?_
      refine lv_lconst (v := (0 : Int64)) hx hb dX10_wants_30 (by decide) ?_
      refine lv_ldc2 (v := (6 : Int64)) hx hb hown cl120 dX10_wants_31 ?_
      obtain ⟨r11, ho12, hm⟩ := bd1_s hm
      refine kb_calli (Rv := r11) (va_runS (As := [.long (Int32.toInt64 (p_1 - (48 : Int32))), .long (0 : Int64), .long (6 : Int64)]) (rest := []) ⟨hx, hb, hml, hown, hts⟩ (c_X10_in l dC dI cI cJ cZ cQ t H.size (Int32.toInt64 (p_1 - (48 : Int32))) (0 : Int64) (6 : Int64) (r11) ho12) (va_cwS 3 hts gX10_wants_X10_in rfl rfl rfl (by decide +kernel) ⟨(Nat.le_of_ble_eq_true rfl), (Nat.le_of_ble_eq_true rfl)⟩) (kb_pre hK hG hP (kb_D hD rfl) hS hA [] rfl (by decide)) rfl rfl hl.1 rfl (lv_room (Nat.le_of_ble_eq_true rfl)) dX10_wants_34 ⟨Nat.zero_le _, Nat.zero_le _⟩) hP (kb_D hD rfl) hS hA [] rfl [(false, 0)] (w2 := [oX10 a_th (.int v_thrown) q_text (.int v_textSize) (.int v_place) q_question (.int v_questionSize) (.int v_facts) (.int v_isSo) (.int v_common) (.int v_readFacts) (.int v_readSo) (.int v_readCommon) (.int v_readDay) q_page (.long v_seed) q_book q_bookSeed (.int v_acts) q_kept q_isKept (.int v_told) q_toldSimple q_toldDay q_toldYes q_yesOf q_noOf q_factOf q_stack q_one q_two q_three]) rfl (by decide) (fun H locs hP hS => ?_)
      refine lv_if_ne (tgt := 46) hx hb dX10_wants_37 (by decide) (fun c13 => ?_) (fun c13 => ?_)
      · replace hm := ite_f c13 hm
        exact J46  _ _ _ hm hP hS (lv_sub hl [1] rfl)
      · replace hm := ite_t c13 hm
        refine lv_iload_n hx hb dX10_wants_40 rfl (lv_at hl 1 rfl) ?_
        refine lv_bipush (v := (121 : Int32)) hx hb dX10_wants_41 (by decide) ?_
        refine lv_icmp_ne (tgt := 50) hx hb dX10_wants_43 (by decide) (fun c14 => ?_) (fun c14 => ?_)
        · replace hm := ite_f c14 hm
          refine lv_iconst (v := (0 : Int32)) hx hb dX10_wants_50 (by decide) ?_
          exact J51 (0 : Int32) _ _ _ hm hP hS (lv_sub hl [1] rfl)
        · replace hm := ite_t c14 hm
          exact J46  _ _ _ hm hP hS (lv_sub hl [1] rfl)
set_option maxHeartbeats 4000000 in
set_option maxRecDepth 100000 in
theorem c_X10_isQuestion (l : Launch) (dC : Nat → ClassId) (dI : Nat → Nat → Nat) (cI cJ cZ cQ : ClassId) (t sz : Nat) (a_th : Nat) (a_question : Nat) (a_stack : Nat) (q_text : Value) (q_page : Value) (q_book : Value) (q_bookSeed : Value) (q_kept : Value) (q_isKept : Value) (q_toldSimple : Value) (q_toldDay : Value) (q_toldYes : Value) (q_yesOf : Value) (q_noOf : Value) (q_factOf : Value) (q_one : Value) (q_two : Value) (q_three : Value) (v_thrown : Int32) (v_textSize : Int32) (v_place : Int32) (v_questionSize : Int32) (v_facts : Int32) (v_isSo : Int32) (v_common : Int32) (v_readFacts : Int32) (v_readSo : Int32) (v_readCommon : Int32) (v_readDay : Int32) (v_seed : Int64) (v_acts : Int32) (v_told : Int32) (v_question : (Nat → Int32)) (v_stack : (Nat → Int32)) (p_1 : Int32) (p_2 : Int32) (p_3 : Int32) (p_4 : Int32) (o : Int32 × (Nat → Int32)) (hm : m_X10_isQuestion p_1 p_2 p_3 p_4 v_questionSize v_facts v_question v_stack = some o) : Met l yX10_isQuestion wsX10_isQuestion { frames := 2, cells := 0, slots := 0, locals := 47 } (va_Pc [.ref a_th, .int p_1, .int p_2, .int p_3, .int p_4] (cP (dC, dI) (kT cI cJ cZ cQ) t sz [oX10 a_th (.int v_thrown) q_text (.int v_textSize) (.int v_place) (.ref a_question) (.int v_questionSize) (.int v_facts) (.int v_isSo) (.int v_common) (.int v_readFacts) (.int v_readSo) (.int v_readCommon) (.int v_readDay) q_page (.long v_seed) q_book q_bookSeed (.int v_acts) q_kept q_isKept (.int v_told) q_toldSimple q_toldDay q_toldYes q_yesOf q_noOf q_factOf (.ref a_stack) q_one q_two q_three, aI cI a_question 16 v_question, aI cZ a_stack 17 v_stack])) (cQi (dC, dI) (va_A [oX10 a_th (.int v_thrown) q_text (.int v_textSize) (.int v_place) (.ref a_question) (.int v_questionSize) (.int v_facts) (.int v_isSo) (.int v_common) (.int v_readFacts) (.int v_readSo) (.int v_readCommon) (.int v_readDay) q_page (.long v_seed) q_book q_bookSeed (.int v_acts) q_kept q_isKept (.int v_told) q_toldSimple q_toldDay q_toldYes q_yesOf q_noOf q_factOf (.ref a_stack) q_one q_two q_three, aI cI a_question 16 v_question, aI cZ a_stack 17 v_stack] sz) o.1 [oX10 a_th (.int v_thrown) q_text (.int v_textSize) (.int v_place) (.ref a_question) (.int v_questionSize) (.int v_facts) (.int v_isSo) (.int v_common) (.int v_readFacts) (.int v_readSo) (.int v_readCommon) (.int v_readDay) q_page (.long v_seed) q_book q_bookSeed (.int v_acts) q_kept q_isKept (.int v_told) q_toldSimple q_toldDay q_toldYes q_yesOf q_noOf q_factOf (.ref a_stack) q_one q_two q_three, aI cI a_question 16 v_question, aI cZ a_stack 17 (o.2)]) 0 0 (va_A [oX10 a_th (.int v_thrown) q_text (.int v_textSize) (.int v_place) (.ref a_question) (.int v_questionSize) (.int v_facts) (.int v_isSo) (.int v_common) (.int v_readFacts) (.int v_readSo) (.int v_readCommon) (.int v_readDay) q_page (.long v_seed) q_book q_bookSeed (.int v_acts) q_kept q_isKept (.int v_told) q_toldSimple q_toldDay q_toldYes q_yesOf q_noOf q_factOf (.ref a_stack) q_one q_two q_three, aI cI a_question 16 v_question, aI cZ a_stack 17 v_stack] sz) := by
  refine Met.ofW (cc := cX10_isQuestion) (maxL := 10) (ret := (some .boolean)) (by decide) rfl ?_
  intro p e s m args below meth c s₁ B hml hv
  obtain ⟨rfl, hsz, hP, hK, hD0, hG⟩ := hv
  have hx := B.exec
  have hb := B.bytes
  have hr := B.returns
  have hts := atoms_spec (ws := wsX10_isQuestion) B.pre
  have hown : s.vm.findClass RX10 = some m.cls := findClass_of_methodNamed B.named
  have hlocks := B.notSynchronized
  subst hsz
  have hD := hD0.self (sz := s.heap.size)
  generalize hAe : va_A [oX10 a_th (.int v_thrown) q_text (.int v_textSize) (.int v_place) (.ref a_question) (.int v_questionSize) (.int v_facts) (.int v_isSo) (.int v_common) (.int v_readFacts) (.int v_readSo) (.int v_readCommon) (.int v_readDay) q_page (.long v_seed) q_book q_bookSeed (.int v_acts) q_kept q_isKept (.int v_told) q_toldSimple q_toldDay q_toldYes q_yesOf q_noOf q_factOf (.ref a_stack) q_one q_two q_three, aI cI a_question 16 v_question, aI cZ a_stack 17 v_stack] s.heap.size = A at hD hG ⊢
  have hA : ∀ q : Nat, s.heap.size ≤ q → A q := fun q h => by rw [← hAe]; exact Or.inr h
  have hS : va_S A s.heap s.heap [] := va_S.rf
  have hl := lv_entry ([.ref a_th, .int p_1, .int p_2, .int p_3, .int p_4]) (n := 10) (Nat.le_of_ble_eq_true rfl)
  rw [lg_entry_eq]
  generalize (lg_sl ([.ref a_th, .int p_1, .int p_2, .int p_3, .int p_4]) ++ List.replicate (10 - (lg_sl ([.ref a_th, .int p_1, .int p_2, .int p_3, .int p_4])).length) Slot.unset).toArray = ls at hl ⊢
  have hl : lv_has ls 10 [(0, .ref a_th), (1, .int p_1), (2, .int p_2), (3, .int p_3), (4, .int p_4)] := hl
  have iX10 : ∀ w ∈ wsX100, w ∈ wsX10_isQuestion := fun _ h => List.mem_cons_of_mem _ (List.mem_append_right _ h)
  have f117 := hts (.fieldLink RX10 117 "TrueOnceWeekModel" "questionSize" "I") (by decide +kernel)
  have f13 := hts (.fieldLink RX10 13 "TrueOnceWeekModel" "question" "[I") (by decide +kernel)
  have f51 := hts (.fieldLink RX10 51 "TrueOnceWeekModel" "stack" "[Z") (by decide +kernel)
  refine kb_gen (fun Q hQ => ?_)
  unfold m_X10_isQuestion at hm
  refine lv_iconst (v := (0 : Int32)) hx hb dX10_isQuestion_0 (by decide) ?_
  refine lv_istore (lv' := [(5, .int (0 : Int32)), (0, .ref a_th), (1, .int p_1), (2, .int p_2), (3, .int p_3), (4, .int p_4)]) hx hb dX10_isQuestion_1 hl (by decide) rfl (fun ls hl => ?_)
  refine lv_aload_n hx hb dX10_isQuestion_3 rfl (lv_at hl 1 rfl) ?_
  refine va_get (D := (dC, dI)) (ci := 8) (v := .int v_questionSize) (C := RX10) (T := TX10) (N := 31) hx hb hts iX10 hown hK hP 0 rfl rfl 5 (by decide) f117 (fun _ h9 => h9) rfl dX10_isQuestion_4 ?_
  refine lv_iconst (v := (1 : Int32)) hx hb dX10_isQuestion_7 (by decide) ?_
  refine lv_isub hx hb dX10_isQuestion_8 ?_
  refine lv_topi (fun x1 ex1 => ?_)
  replace hm := nm_t ex1 hm
  refine lv_istore (lv' := [(6, .int x1), (5, .int (0 : Int32)), (0, .ref a_th), (1, .int p_1), (2, .int p_2), (3, .int p_3), (4, .int p_4)]) hx hb dX10_isQuestion_9 hl (by decide) rfl (fun ls hl => ?_)
  have lp11 : ∀ (n11 : Nat) (x2 : Int32) (x3 : Int32) (w4 : (Nat → Int32)) (k11 : (Nat → Int32) → Option (Int32 × (Nat → Int32))) (H : Heap) (locs : List Loc) (ls : Array Slot), L_X10_isQuestion_11 v_facts v_question p_1 p_2 p_3 p_4 n11 x2 x3 w4 k11 = some o → (∀ (w5 : (Nat → Int32)) (H : Heap) (locs : List Loc) (ls : Array Slot), k11 w5 = some o → va_P (dC, dI) vwCl [oX10 a_th (.int v_thrown) q_text (.int v_textSize) (.int v_place) (.ref a_question) (.int v_questionSize) (.int v_facts) (.int v_isSo) (.int v_common) (.int v_readFacts) (.int v_readSo) (.int v_readCommon) (.int v_readDay) q_page (.long v_seed) q_book q_bookSeed (.int v_acts) q_kept q_isKept (.int v_told) q_toldSimple q_toldDay q_toldYes q_yesOf q_noOf q_factOf (.ref a_stack) q_one q_two q_three, aI cI a_question 16 v_question, aI cZ a_stack 17 w5] H → va_S A s.heap H locs → lv_has ls 10 [(0, .ref a_th)] → W p l e (headSpec wsX10_isQuestion { frames := 2, cells := 0, slots := 0, locals := 47 }).room s m [.ref a_th, .int p_1, .int p_2, .int p_3, .int p_4].toArray below meth c H locs 0 0 Q (F0 m 254 ls [])) → va_P (dC, dI) vwCl [oX10 a_th (.int v_thrown) q_text (.int v_textSize) (.int v_place) (.ref a_question) (.int v_questionSize) (.int v_facts) (.int v_isSo) (.int v_common) (.int v_readFacts) (.int v_readSo) (.int v_readCommon) (.int v_readDay) q_page (.long v_seed) q_book q_bookSeed (.int v_acts) q_kept q_isKept (.int v_told) q_toldSimple q_toldDay q_toldYes q_yesOf q_noOf q_factOf (.ref a_stack) q_one q_two q_three, aI cI a_question 16 v_question, aI cZ a_stack 17 w4] H → va_S A s.heap H locs → lv_has ls 10 [(0, .ref a_th), (1, .int p_1), (2, .int p_2), (3, .int p_3), (4, .int p_4), (5, .int x2), (6, .int x3)] → W p l e (headSpec wsX10_isQuestion { frames := 2, cells := 0, slots := 0, locals := 47 }).room s m [.ref a_th, .int p_1, .int p_2, .int p_3, .int p_4].toArray below meth c H locs 0 0 Q (F0 m 11 ls []) := by
    intro n11
    induction n11 with
    | zero =>
      intro x2 x3 w4 k11 H locs ls hm
      cases (show (none : Option (Int32 × (Nat → Int32))) = some o from hm)
    | succ n11 ih11 =>
      intro x2 x3 w4 k11 H locs ls hm hk11 hP hS hl
      rw [L_X10_isQuestion_11.eq_2] at hm
      refine lv_iload hx hb dX10_isQuestion_11 (lv_at hl 6 rfl) ?_
      refine lv_if_lt (tgt := 254) hx hb dX10_isQuestion_13 (by decide) (fun c6 => ?_) (fun c6 => ?_)
      · replace hm := ite_t c6 hm
        exact hk11 w4 _ _ _ hm hP hS (lv_sub hl [0] rfl)
      · replace hm := ite_f c6 hm
        refine lv_aload_n hx hb dX10_isQuestion_16 rfl (lv_at hl 0 rfl) ?_
        refine va_get (D := (dC, dI)) (ci := 8) (v := .ref a_question) (C := RX10) (T := TX10) (N := 31) hx hb hts iX10 hown hK hP 0 rfl rfl 4 (by decide) f13 (fun _ h9 => h9) rfl dX10_isQuestion_17 ?_
        refine lv_iload hx hb dX10_isQuestion_20 (lv_at hl 6 rfl) ?_
        obtain ⟨h7, hm⟩ := gd_s hm
        refine va_iald hx hb hK hP 1 0 rfl rfl (inB_s h7) dX10_isQuestion_22 ?_
        refine lv_topi (fun x8 ex8 => ?_)
        replace hm := nm_t ex8 hm
        refine lv_istore (lv' := [(7, .int x8), (0, .ref a_th), (1, .int p_1), (2, .int p_2), (3, .int p_3), (4, .int p_4), (5, .int x2), (6, .int x3)]) hx hb dX10_isQuestion_23 hl (by decide) rfl (fun ls hl => ?_)
        refine lv_iload hx hb dX10_isQuestion_25 (lv_at hl 0 rfl) ?_
        refine lv_bipush (v := (110 : Int32)) hx hb dX10_isQuestion_27 (by decide) ?_
        obtain ⟨k248, ek248, hm⟩ := nm_s hm
        have J248 : ∀ (x9 : Int32) (w10 : (Nat → Int32)) (H : Heap) (locs : List Loc) (ls : Array Slot), k248 x9 w10 = some o → va_P (dC, dI) vwCl [oX10 a_th (.int v_thrown) q_text (.int v_textSize) (.int v_place) (.ref a_question) (.int v_questionSize) (.int v_facts) (.int v_isSo) (.int v_common) (.int v_readFacts) (.int v_readSo) (.int v_readCommon) (.int v_readDay) q_page (.long v_seed) q_book q_bookSeed (.int v_acts) q_kept q_isKept (.int v_told) q_toldSimple q_toldDay q_toldYes q_yesOf q_noOf q_factOf (.ref a_stack) q_one q_two q_three, aI cI a_question 16 v_question, aI cZ a_stack 17 w10] H → va_S A s.heap H locs → lv_has ls 10 [(0, .ref a_th), (1, .int p_1), (2, .int p_2), (3, .int p_3), (4, .int p_4), (5, .int x9), (6, .int x3)] → W p l e (headSpec wsX10_isQuestion { frames := 2, cells := 0, slots := 0, locals := 47 }).room s m [.ref a_th, .int p_1, .int p_2, .int p_3, .int p_4].toArray below meth c H locs 0 0 Q (F0 m 248 ls []) := by
          intro x9 w10 H locs ls hm hP hS hl
          rw [ek248] at hm
          obtain ⟨x11, ex11⟩ : ∃ y : Int32, y = x3 + (-1 : Int32) := ⟨_, rfl⟩
          replace hm := nm_t ex11 hm
          refine lv_iinc (v := x11) (lv' := [(6, .int x11), (0, .ref a_th), (1, .int p_1), (2, .int p_2), (3, .int p_3), (4, .int p_4), (5, .int x9)]) hx hb dX10_isQuestion_248 hl (k := 6) rfl (by rw [ex11]; rfl) (by decide) rfl (fun ls hl => ?_)
          refine lv_goto (tgt := 11) hx hb dX10_isQuestion_251 (by decide) ?_
          exact ih11 x9 x11 w10 k11 _ _ _ hm hk11 hP hS (lv_sub hl [1, 2, 3, 4, 5, 6, 0] rfl)
        refine lv_icmp_ne (tgt := 61) hx hb dX10_isQuestion_29 (by decide) (fun c12 => ?_) (fun c12 => ?_)
        · replace hm := ite_f c12 hm
          refine lv_aload_n hx hb dX10_isQuestion_61 rfl (lv_at hl 1 rfl) ?_
          refine lv_iload hx hb dX10_isQuestion_62 (lv_at hl 0 rfl) ?_
          obtain ⟨r13, ho14, hm⟩ := bd1_s hm
          refine kb_calli (Rv := r13) (va_runV (As := [.int x8]) (rest := []) ⟨hx, hb, hml, hown, hts⟩ (c_X10_wants l dC dI cI cJ cZ cQ t H.size a_th q_text (.ref a_question) q_page q_book q_bookSeed q_kept q_isKept q_toldSimple q_toldDay q_toldYes q_yesOf q_noOf q_factOf (.ref a_stack) q_one q_two q_three v_thrown v_textSize v_place v_questionSize v_facts v_isSo v_common v_readFacts v_readSo v_readCommon v_readDay v_seed v_acts v_told x8 (r13) ho14) (cwV 1 hts gX10_isQuestion_X10_wants rfl rfl rfl (by decide +kernel) ⟨(Nat.le_of_ble_eq_true rfl), (Nat.le_of_ble_eq_true rfl)⟩) ⟨(kb_pre hK hG hP (kb_D hD rfl) hS hA [0] rfl (by decide)).1, (va_recv hK hP (ci := 8) (q0 := 0) rfl rfl), (kb_pre hK hG hP (kb_D hD rfl) hS hA [0] rfl (by decide)).2⟩ rfl rfl hl.1 rfl (lv_room (Nat.le_of_ble_eq_true rfl)) dX10_isQuestion_64 ⟨Nat.zero_le _, Nat.zero_le _⟩) hP (kb_D hD rfl) hS hA [0] rfl [(true, 0), (false, 1), (false, 2)] (w2 := [oX10 a_th (.int v_thrown) q_text (.int v_textSize) (.int v_place) (.ref a_question) (.int v_questionSize) (.int v_facts) (.int v_isSo) (.int v_common) (.int v_readFacts) (.int v_readSo) (.int v_readCommon) (.int v_readDay) q_page (.long v_seed) q_book q_bookSeed (.int v_acts) q_kept q_isKept (.int v_told) q_toldSimple q_toldDay q_toldYes q_yesOf q_noOf q_factOf (.ref a_stack) q_one q_two q_three, aI cI a_question 16 v_question, aI cZ a_stack 17 w4]) rfl (by decide) (fun H locs hP hS => ?_)
          refine lv_iconst (v := (2 : Int32)) hx hb dX10_isQuestion_67 (by decide) ?_
          refine lv_icmp_ne (tgt := 170) hx hb dX10_isQuestion_68 (by decide) (fun c15 => ?_) (fun c15 => ?_)
          · replace hm := ite_f c15 hm
            refine lv_aload_n hx hb dX10_isQuestion_170 rfl (lv_at hl 1 rfl) ?_
            refine va_get (D := (dC, dI)) (ci := 8) (v := .ref a_stack) (C := RX10) (T := TX10) (N := 31) hx hb hts iX10 hown hK hP 0 rfl rfl 27 (by decide) f51 (fun _ h9 => h9) rfl dX10_isQuestion_171 ?_
            refine lv_iload hx hb dX10_isQuestion_174 (lv_at hl 6 rfl) ?_
            refine lv_iload hx hb dX10_isQuestion_176 (lv_at hl 0 rfl) ?_
            refine lv_bipush (v := (116 : Int32)) hx hb dX10_isQuestion_178 (by decide) ?_
            obtain ⟨k244, ek244, hm⟩ := nm_s hm
            have J244 : ∀ (x16 : Int32) (H : Heap) (locs : List Loc) (ls : Array Slot), k244 x16 = some o → va_P (dC, dI) vwCl [oX10 a_th (.int v_thrown) q_text (.int v_textSize) (.int v_place) (.ref a_question) (.int v_questionSize) (.int v_facts) (.int v_isSo) (.int v_common) (.int v_readFacts) (.int v_readSo) (.int v_readCommon) (.int v_readDay) q_page (.long v_seed) q_book q_bookSeed (.int v_acts) q_kept q_isKept (.int v_told) q_toldSimple q_toldDay q_toldYes q_yesOf q_noOf q_factOf (.ref a_stack) q_one q_two q_three, aI cI a_question 16 v_question, aI cZ a_stack 17 w4] H → va_S A s.heap H locs → lv_has ls 10 [(0, .ref a_th), (1, .int p_1), (2, .int p_2), (3, .int p_3), (4, .int p_4), (5, .int x2), (6, .int x3)] → W p l e (headSpec wsX10_isQuestion { frames := 2, cells := 0, slots := 0, locals := 47 }).room s m [.ref a_th, .int p_1, .int p_2, .int p_3, .int p_4].toArray below meth c H locs 0 0 Q (F0 m 244 ls [.int x16, .int x2, .ref a_stack]) := by
              intro x16 H locs ls hm hP hS hl
              rw [ek244] at hm
              obtain ⟨h17, hm⟩ := gd_s hm
              refine va_zast hx hb hK hP (kb_D hD rfl) hS 2 2 rfl rfl (inB_s h17) dX10_isQuestion_244 (fun H locs hP _ hS => ?_)
              have hP : va_P (dC, dI) vwCl [oX10 a_th (.int v_thrown) q_text (.int v_textSize) (.int v_place) (.ref a_question) (.int v_questionSize) (.int v_facts) (.int v_isSo) (.int v_common) (.int v_readFacts) (.int v_readSo) (.int v_readCommon) (.int v_readDay) q_page (.long v_seed) q_book q_bookSeed (.int v_acts) q_kept q_isKept (.int v_told) q_toldSimple q_toldDay q_toldYes q_yesOf q_noOf q_factOf (.ref a_stack) q_one q_two q_three, aI cI a_question 16 v_question, aI cZ a_stack 17 (upd w4 (Int32.toNatClampNeg x2) (vp_nar .boolean x16))] H := hP
              obtain ⟨x18, ex18⟩ : ∃ y : Int32, y = x2 + (1 : Int32) := ⟨_, rfl⟩
              replace hm := nm_t ex18 hm
              refine lv_iinc (v := x18) (lv' := [(5, .int x18), (0, .ref a_th), (1, .int p_1), (2, .int p_2), (3, .int p_3), (4, .int p_4), (6, .int x3)]) hx hb dX10_isQuestion_245 hl (k := 5) rfl (by rw [ex18]; rfl) (by decide) rfl (fun ls hl => ?_)
              exact J248 x18 (upd w4 (Int32.toNatClampNeg x2) (vp_nar .boolean x16)) _ _ _ hm hP hS (lv_sub hl [1, 2, 3, 4, 5, 0, 6] rfl)
            refine lv_icmp_ne (tgt := 199) hx hb dX10_isQuestion_180 (by decide) (fun c19 => ?_) (fun c19 => ?_)
            · replace hm := ite_f c19 hm
              refine lv_iload hx hb dX10_isQuestion_199 (lv_at hl 0 rfl) ?_
              refine lv_bipush (v := (121 : Int32)) hx hb dX10_isQuestion_201 (by decide) ?_
              refine lv_icmp_ne (tgt := 211) hx hb dX10_isQuestion_203 (by decide) (fun c20 => ?_) (fun c20 => ?_)
              · replace hm := ite_f c20 hm
                refine lv_iload hx hb dX10_isQuestion_211 (lv_at hl 0 rfl) ?_
                refine lv_bipush (v := (97 : Int32)) hx hb dX10_isQuestion_213 (by decide) ?_
                refine lv_icmp_lt (tgt := 230) hx hb dX10_isQuestion_215 (by decide) (fun c21 => ?_) (fun c21 => ?_)
                · replace hm := ite_t c21 hm
                  refine lv_iload_n hx hb dX10_isQuestion_230 rfl (lv_at hl 3 rfl) ?_
                  refine lv_iload hx hb dX10_isQuestion_231 (lv_at hl 0 rfl) ?_
                  refine lv_bipush (v := (48 : Int32)) hx hb dX10_isQuestion_233 (by decide) ?_
                  refine lv_isub hx hb dX10_isQuestion_235 ?_
                  refine lv_icmp_ne (tgt := 243) hx hb dX10_isQuestion_236 (by decide) (fun c22 => ?_) (fun c22 => ?_)
                  · replace hm := ite_f c22 hm
                    refine lv_iconst (v := (0 : Int32)) hx hb dX10_isQuestion_243 (by decide) ?_
                    exact J244 (0 : Int32) _ _ _ hm hP hS (lv_sub hl [1, 2, 3, 4, 5, 6, 7] rfl)
                  · replace hm := ite_t c22 hm
                    refine lv_iconst (v := (1 : Int32)) hx hb dX10_isQuestion_239 (by decide) ?_
                    refine lv_goto (tgt := 244) hx hb dX10_isQuestion_240 (by decide) ?_
                    exact J244 (1 : Int32) _ _ _ hm hP hS (lv_sub hl [1, 2, 3, 4, 5, 6, 7] rfl)
                · replace hm := ite_f c21 hm
                  refine lv_iload_n hx hb dX10_isQuestion_218 rfl (lv_at hl 4 rfl) ?_
                  refine lv_iload hx hb dX10_isQuestion_219 (lv_at hl 0 rfl) ?_
                  refine lv_bipush (v := (97 : Int32)) hx hb dX10_isQuestion_221 (by decide) ?_
                  refine lv_isub hx hb dX10_isQuestion_223 ?_
                  obtain ⟨r23, ho24, hm⟩ := bd1_s hm
                  refine kb_calli (Rv := r23) (va_runS (As := [.int p_3, .int (x8 - (97 : Int32))]) (rest := [.int x2, .ref a_stack]) ⟨hx, hb, hml, hown, hts⟩ (c_X10_has l dC dI cI cJ cZ cQ t H.size p_3 (x8 - (97 : Int32)) (r23) ho24) (va_cwS 2 hts gX10_isQuestion_X10_has rfl rfl rfl (by decide +kernel) ⟨(Nat.le_of_ble_eq_true rfl), (Nat.le_of_ble_eq_true rfl)⟩) (kb_pre hK hG hP (kb_D hD rfl) hS hA [] rfl (by decide)) rfl rfl hl.1 rfl (lv_room (Nat.le_of_ble_eq_true rfl)) dX10_isQuestion_224 ⟨Nat.zero_le _, Nat.zero_le _⟩) hP (kb_D hD rfl) hS hA [] rfl [(false, 0), (false, 1), (false, 2)] (w2 := [oX10 a_th (.int v_thrown) q_text (.int v_textSize) (.int v_place) (.ref a_question) (.int v_questionSize) (.int v_facts) (.int v_isSo) (.int v_common) (.int v_readFacts) (.int v_readSo) (.int v_readCommon) (.int v_readDay) q_page (.long v_seed) q_book q_bookSeed (.int v_acts) q_kept q_isKept (.int v_told) q_toldSimple q_toldDay q_toldYes q_yesOf q_noOf q_factOf (.ref a_stack) q_one q_two q_three, aI cI a_question 16 v_question, aI cZ a_stack 17 w4]) rfl (by decide) (fun H locs hP hS => ?_)
                  refine lv_goto (tgt := 244) hx hb dX10_isQuestion_227 (by decide) ?_
                  exact J244 r23 _ _ _ hm hP hS (lv_sub hl [1, 2, 3, 4, 5, 6, 7] rfl)
              · replace hm := ite_t c20 hm
                refine lv_iload hx hb dX10_isQuestion_206 (lv_at hl 5 rfl) ?_
                refine lv_goto (tgt := 244) hx hb dX10_isQuestion_208 (by decide) ?_
                exact J244 p_4 _ _ _ hm hP hS (lv_sub hl [1, 2, 3, 4, 5, 6, 7] rfl)
            · replace hm := ite_t c19 hm
              refine lv_iload_n hx hb dX10_isQuestion_183 rfl (lv_at hl 2 rfl) ?_
              refine lv_bipush (v := (7 : Int32)) hx hb dX10_isQuestion_184 (by decide) ?_
              refine lv_irem hx hb dX10_isQuestion_186 (by decide) ?_
              refine lv_iload_n hx hb dX10_isQuestion_187 rfl (lv_at hl 3 rfl) ?_
              refine lv_icmp_ne (tgt := 195) hx hb dX10_isQuestion_188 (by decide) (fun c25 => ?_) (fun c25 => ?_)
              · replace hm := ite_f c25 hm
                refine lv_iconst (v := (0 : Int32)) hx hb dX10_isQuestion_195 (by decide) ?_
                refine lv_goto (tgt := 244) hx hb dX10_isQuestion_196 (by decide) ?_
                exact J244 (0 : Int32) _ _ _ hm hP hS (lv_sub hl [1, 2, 3, 4, 5, 6, 7] rfl)
              · replace hm := ite_t c25 hm
                refine lv_iconst (v := (1 : Int32)) hx hb dX10_isQuestion_191 (by decide) ?_
                refine lv_goto (tgt := 244) hx hb dX10_isQuestion_192 (by decide) ?_
                exact J244 (1 : Int32) _ _ _ hm hP hS (lv_sub hl [1, 2, 3, 4, 5, 6, 7] rfl)
          · replace hm := ite_t c15 hm
            refine lv_aload_n hx hb dX10_isQuestion_71 rfl (lv_at hl 1 rfl) ?_
            refine va_get (D := (dC, dI)) (ci := 8) (v := .ref a_stack) (C := RX10) (T := TX10) (N := 31) hx hb hts iX10 hown hK hP 0 rfl rfl 27 (by decide) f51 (fun _ h9 => h9) rfl dX10_isQuestion_72 ?_
            refine lv_iload hx hb dX10_isQuestion_75 (lv_at hl 6 rfl) ?_
            refine lv_iconst (v := (1 : Int32)) hx hb dX10_isQuestion_77 (by decide) ?_
            refine lv_isub hx hb dX10_isQuestion_78 ?_
            obtain ⟨h26, hm⟩ := gd_s hm
            refine va_zald hx hb hK hP 2 2 rfl rfl (inB_s h26) dX10_isQuestion_79 ?_
            refine lv_topi (fun x27 ex27 => ?_)
            replace hm := nm_t ex27 hm
            refine lv_istore (lv' := [(8, .int x27), (7, .int x8), (0, .ref a_th), (1, .int p_1), (2, .int p_2), (3, .int p_3), (4, .int p_4), (5, .int x2), (6, .int x3)]) hx hb dX10_isQuestion_80 hl (by decide) rfl (fun ls hl => ?_)
            refine lv_aload_n hx hb dX10_isQuestion_82 rfl (lv_at hl 2 rfl) ?_
            refine va_get (D := (dC, dI)) (ci := 8) (v := .ref a_stack) (C := RX10) (T := TX10) (N := 31) hx hb hts iX10 hown hK hP 0 rfl rfl 27 (by decide) f51 (fun _ h9 => h9) rfl dX10_isQuestion_83 ?_
            refine lv_iload hx hb dX10_isQuestion_86 (lv_at hl 7 rfl) ?_
            refine lv_iconst (v := (2 : Int32)) hx hb dX10_isQuestion_88 (by decide) ?_
            refine lv_isub hx hb dX10_isQuestion_89 ?_
            obtain ⟨h28, hm⟩ := gd_s hm
            refine va_zald hx hb hK hP 2 2 rfl rfl (inB_s h28) dX10_isQuestion_90 ?_
            refine lv_topi (fun x29 ex29 => ?_)
            replace hm := nm_t ex29 hm
            refine lv_istore (lv' := [(9, .int x29), (8, .int x27), (7, .int x8), (0, .ref a_th), (1, .int p_1), (2, .int p_2), (3, .int p_3), (4, .int p_4), (5, .int x2), (6, .int x3)]) hx hb dX10_isQuestion_91 hl (by decide) rfl (fun ls hl => ?_)
            obtain ⟨x30, ex30⟩ : ∃ y : Int32, y = x2 + (-1 : Int32) := ⟨_, rfl⟩
            replace hm := nm_t ex30 hm
            refine lv_iinc (v := x30) (lv' := [(5, .int x30), (9, .int x29), (8, .int x27), (7, .int x8), (0, .ref a_th), (1, .int p_1), (2, .int p_2), (3, .int p_3), (4, .int p_4), (6, .int x3)]) hx hb dX10_isQuestion_93 hl (k := 8) rfl (by rw [ex30]; rfl) (by decide) rfl (fun ls hl => ?_)
            refine lv_aload_n hx hb dX10_isQuestion_96 rfl (lv_at hl 4 rfl) ?_
            refine va_get (D := (dC, dI)) (ci := 8) (v := .ref a_stack) (C := RX10) (T := TX10) (N := 31) hx hb hts iX10 hown hK hP 0 rfl rfl 27 (by decide) f51 (fun _ h9 => h9) rfl dX10_isQuestion_97 ?_
            refine lv_iload hx hb dX10_isQuestion_100 (lv_at hl 0 rfl) ?_
            refine lv_iconst (v := (1 : Int32)) hx hb dX10_isQuestion_102 (by decide) ?_
            refine lv_isub hx hb dX10_isQuestion_103 ?_
            refine lv_iload hx hb dX10_isQuestion_104 (lv_at hl 3 rfl) ?_
            refine lv_bipush (v := (38 : Int32)) hx hb dX10_isQuestion_106 (by decide) ?_
            obtain ⟨k166, ek166, hm⟩ := nm_s hm
            have J166 : ∀ (x31 : Int32) (H : Heap) (locs : List Loc) (ls : Array Slot), k166 x31 = some o → va_P (dC, dI) vwCl [oX10 a_th (.int v_thrown) q_text (.int v_textSize) (.int v_place) (.ref a_question) (.int v_questionSize) (.int v_facts) (.int v_isSo) (.int v_common) (.int v_readFacts) (.int v_readSo) (.int v_readCommon) (.int v_readDay) q_page (.long v_seed) q_book q_bookSeed (.int v_acts) q_kept q_isKept (.int v_told) q_toldSimple q_toldDay q_toldYes q_yesOf q_noOf q_factOf (.ref a_stack) q_one q_two q_three, aI cI a_question 16 v_question, aI cZ a_stack 17 w4] H → va_S A s.heap H locs → lv_has ls 10 [(0, .ref a_th), (1, .int p_1), (2, .int p_2), (3, .int p_3), (4, .int p_4), (5, .int x30), (6, .int x3)] → W p l e (headSpec wsX10_isQuestion { frames := 2, cells := 0, slots := 0, locals := 47 }).room s m [.ref a_th, .int p_1, .int p_2, .int p_3, .int p_4].toArray below meth c H locs 0 0 Q (F0 m 166 ls [.int x31, .int (x30 - (1 : Int32)), .ref a_stack]) := by
              intro x31 H locs ls hm hP hS hl
              rw [ek166] at hm
              obtain ⟨h32, hm⟩ := gd_s hm
              refine va_zast hx hb hK hP (kb_D hD rfl) hS 2 2 rfl rfl (inB_s h32) dX10_isQuestion_166 (fun H locs hP _ hS => ?_)
              have hP : va_P (dC, dI) vwCl [oX10 a_th (.int v_thrown) q_text (.int v_textSize) (.int v_place) (.ref a_question) (.int v_questionSize) (.int v_facts) (.int v_isSo) (.int v_common) (.int v_readFacts) (.int v_readSo) (.int v_readCommon) (.int v_readDay) q_page (.long v_seed) q_book q_bookSeed (.int v_acts) q_kept q_isKept (.int v_told) q_toldSimple q_toldDay q_toldYes q_yesOf q_noOf q_factOf (.ref a_stack) q_one q_two q_three, aI cI a_question 16 v_question, aI cZ a_stack 17 (upd w4 (Int32.toNatClampNeg (x30 - (1 : Int32))) (vp_nar .boolean x31))] H := hP
              refine lv_goto (tgt := 248) hx hb dX10_isQuestion_167 (by decide) ?_
              exact J248 x30 (upd w4 (Int32.toNatClampNeg (x30 - (1 : Int32))) (vp_nar .boolean x31)) _ _ _ hm hP hS (lv_sub hl [0, 1, 2, 3, 4, 5, 6] rfl)
            refine lv_icmp_ne (tgt := 129) hx hb dX10_isQuestion_108 (by decide) (fun c33 => ?_) (fun c33 => ?_)
            · replace hm := ite_f c33 hm
              refine lv_iload hx hb dX10_isQuestion_129 (lv_at hl 3 rfl) ?_
              refine lv_bipush (v := (124 : Int32)) hx hb dX10_isQuestion_131 (by decide) ?_
              refine lv_icmp_ne (tgt := 154) hx hb dX10_isQuestion_133 (by decide) (fun c34 => ?_) (fun c34 => ?_)
              · replace hm := ite_f c34 hm
                refine lv_iload hx hb dX10_isQuestion_154 (lv_at hl 2 rfl) ?_
                refine lv_iload hx hb dX10_isQuestion_156 (lv_at hl 1 rfl) ?_
                refine lv_icmp_eq (tgt := 165) hx hb dX10_isQuestion_158 (by decide) (fun c35 => ?_) (fun c35 => ?_)
                · replace hm := ite_t c35 hm
                  refine lv_iconst (v := (0 : Int32)) hx hb dX10_isQuestion_165 (by decide) ?_
                  exact J166 (0 : Int32) _ _ _ hm hP hS (lv_sub hl [4, 5, 6, 7, 8, 0, 9] rfl)
                · replace hm := ite_f c35 hm
                  refine lv_iconst (v := (1 : Int32)) hx hb dX10_isQuestion_161 (by decide) ?_
                  refine lv_goto (tgt := 166) hx hb dX10_isQuestion_162 (by decide) ?_
                  exact J166 (1 : Int32) _ _ _ hm hP hS (lv_sub hl [4, 5, 6, 7, 8, 0, 9] rfl)
              · replace hm := ite_t c34 hm
                refine lv_iload hx hb dX10_isQuestion_136 (lv_at hl 2 rfl) ?_
                obtain ⟨k146, ek146, hm⟩ := nm_s hm
                have J146 : ∀ (H : Heap) (locs : List Loc) (ls : Array Slot), k146 = some o → va_P (dC, dI) vwCl [oX10 a_th (.int v_thrown) q_text (.int v_textSize) (.int v_place) (.ref a_question) (.int v_questionSize) (.int v_facts) (.int v_isSo) (.int v_common) (.int v_readFacts) (.int v_readSo) (.int v_readCommon) (.int v_readDay) q_page (.long v_seed) q_book q_bookSeed (.int v_acts) q_kept q_isKept (.int v_told) q_toldSimple q_toldDay q_toldYes q_yesOf q_noOf q_factOf (.ref a_stack) q_one q_two q_three, aI cI a_question 16 v_question, aI cZ a_stack 17 w4] H → va_S A s.heap H locs → lv_has ls 10 [(0, .ref a_th), (1, .int p_1), (2, .int p_2), (3, .int p_3), (4, .int p_4), (5, .int x30), (6, .int x3)] → W p l e (headSpec wsX10_isQuestion { frames := 2, cells := 0, slots := 0, locals := 47 }).room s m [.ref a_th, .int p_1, .int p_2, .int p_3, .int p_4].toArray below meth c H locs 0 0 Q (F0 m 146 ls [.int (x30 - (1 : Int32)), .ref a_stack]) := by
                  intro  H locs ls hm hP hS hl
                  rw [ek146] at hm
                  refine lv_iconst (v := (1 : Int32)) hx hb dX10_isQuestion_146 (by decide) ?_
                  refine lv_goto (tgt := 166) hx hb dX10_isQuestion_147 (by decide) ?_
                  exact J166 (1 : Int32) _ _ _ hm hP hS (lv_sub hl [0, 1, 2, 3, 4, 5, 6] rfl)
                refine lv_if_ne (tgt := 146) hx hb dX10_isQuestion_138 (by decide) (fun c36 => ?_) (fun c36 => ?_)
                · replace hm := ite_f c36 hm
                  exact J146  _ _ _ hm hP hS (lv_sub hl [4, 5, 6, 7, 8, 0, 9] rfl)
                · replace hm := ite_t c36 hm
                  refine lv_iload hx hb dX10_isQuestion_141 (lv_at hl 1 rfl) ?_
                  refine lv_if_eq (tgt := 150) hx hb dX10_isQuestion_143 (by decide) (fun c37 => ?_) (fun c37 => ?_)
                  · replace hm := ite_t c37 hm
                    refine lv_iconst (v := (0 : Int32)) hx hb dX10_isQuestion_150 (by decide) ?_
                    refine lv_goto (tgt := 166) hx hb dX10_isQuestion_151 (by decide) ?_
                    exact J166 (0 : Int32) _ _ _ hm hP hS (lv_sub hl [4, 5, 6, 7, 8, 0, 9] rfl)
                  · replace hm := ite_f c37 hm
                    exact J146  _ _ _ hm hP hS (lv_sub hl [4, 5, 6, 7, 8, 0, 9] rfl)
            · replace hm := ite_t c33 hm
              refine lv_iload hx hb dX10_isQuestion_111 (lv_at hl 2 rfl) ?_
              obtain ⟨k125, ek125, hm⟩ := nm_s hm
              have J125 : ∀ (H : Heap) (locs : List Loc) (ls : Array Slot), k125 = some o → va_P (dC, dI) vwCl [oX10 a_th (.int v_thrown) q_text (.int v_textSize) (.int v_place) (.ref a_question) (.int v_questionSize) (.int v_facts) (.int v_isSo) (.int v_common) (.int v_readFacts) (.int v_readSo) (.int v_readCommon) (.int v_readDay) q_page (.long v_seed) q_book q_bookSeed (.int v_acts) q_kept q_isKept (.int v_told) q_toldSimple q_toldDay q_toldYes q_yesOf q_noOf q_factOf (.ref a_stack) q_one q_two q_three, aI cI a_question 16 v_question, aI cZ a_stack 17 w4] H → va_S A s.heap H locs → lv_has ls 10 [(0, .ref a_th), (1, .int p_1), (2, .int p_2), (3, .int p_3), (4, .int p_4), (5, .int x30), (6, .int x3)] → W p l e (headSpec wsX10_isQuestion { frames := 2, cells := 0, slots := 0, locals := 47 }).room s m [.ref a_th, .int p_1, .int p_2, .int p_3, .int p_4].toArray below meth c H locs 0 0 Q (F0 m 125 ls [.int (x30 - (1 : Int32)), .ref a_stack]) := by
                intro  H locs ls hm hP hS hl
                rw [ek125] at hm
                refine lv_iconst (v := (0 : Int32)) hx hb dX10_isQuestion_125 (by decide) ?_
                refine lv_goto (tgt := 166) hx hb dX10_isQuestion_126 (by decide) ?_
                exact J166 (0 : Int32) _ _ _ hm hP hS (lv_sub hl [0, 1, 2, 3, 4, 5, 6] rfl)
              refine lv_if_eq (tgt := 125) hx hb dX10_isQuestion_113 (by decide) (fun c38 => ?_) (fun c38 => ?_)
              · replace hm := ite_t c38 hm
                exact J125  _ _ _ hm hP hS (lv_sub hl [4, 5, 6, 7, 8, 0, 9] rfl)
              · replace hm := ite_f c38 hm
                refine lv_iload hx hb dX10_isQuestion_116 (lv_at hl 1 rfl) ?_
                refine lv_if_eq (tgt := 125) hx hb dX10_isQuestion_118 (by decide) (fun c39 => ?_) (fun c39 => ?_)
                · replace hm := ite_t c39 hm
                  exact J125  _ _ _ hm hP hS (lv_sub hl [4, 5, 6, 7, 8, 0, 9] rfl)
                · replace hm := ite_f c39 hm
                  refine lv_iconst (v := (1 : Int32)) hx hb dX10_isQuestion_121 (by decide) ?_
                  refine lv_goto (tgt := 166) hx hb dX10_isQuestion_122 (by decide) ?_
                  exact J166 (1 : Int32) _ _ _ hm hP hS (lv_sub hl [4, 5, 6, 7, 8, 0, 9] rfl)
        · replace hm := ite_t c12 hm
          refine lv_aload_n hx hb dX10_isQuestion_32 rfl (lv_at hl 1 rfl) ?_
          refine va_get (D := (dC, dI)) (ci := 8) (v := .ref a_stack) (C := RX10) (T := TX10) (N := 31) hx hb hts iX10 hown hK hP 0 rfl rfl 27 (by decide) f51 (fun _ h9 => h9) rfl dX10_isQuestion_33 ?_
          refine lv_iload hx hb dX10_isQuestion_36 (lv_at hl 6 rfl) ?_
          refine lv_iconst (v := (1 : Int32)) hx hb dX10_isQuestion_38 (by decide) ?_
          refine lv_isub hx hb dX10_isQuestion_39 ?_
          refine lv_aload_n hx hb dX10_isQuestion_40 rfl (lv_at hl 1 rfl) ?_
          refine va_get (D := (dC, dI)) (ci := 8) (v := .ref a_stack) (C := RX10) (T := TX10) (N := 31) hx hb hts iX10 hown hK hP 0 rfl rfl 27 (by decide) f51 (fun _ h9 => h9) rfl dX10_isQuestion_41 ?_
          refine lv_iload hx hb dX10_isQuestion_44 (lv_at hl 6 rfl) ?_
          refine lv_iconst (v := (1 : Int32)) hx hb dX10_isQuestion_46 (by decide) ?_
          refine lv_isub hx hb dX10_isQuestion_47 ?_
          obtain ⟨h40, hm⟩ := gd_s hm
          refine va_zald hx hb hK hP 2 2 rfl rfl (inB_s h40) dX10_isQuestion_48 ?_
          obtain ⟨k57, ek57, hm⟩ := nm_s hm
          have J57 : ∀ (x41 : Int32) (H : Heap) (locs : List Loc) (ls : Array Slot), k57 x41 = some o → va_P (dC, dI) vwCl [oX10 a_th (.int v_thrown) q_text (.int v_textSize) (.int v_place) (.ref a_question) (.int v_questionSize) (.int v_facts) (.int v_isSo) (.int v_common) (.int v_readFacts) (.int v_readSo) (.int v_readCommon) (.int v_readDay) q_page (.long v_seed) q_book q_bookSeed (.int v_acts) q_kept q_isKept (.int v_told) q_toldSimple q_toldDay q_toldYes q_yesOf q_noOf q_factOf (.ref a_stack) q_one q_two q_three, aI cI a_question 16 v_question, aI cZ a_stack 17 w4] H → va_S A s.heap H locs → lv_has ls 10 [(0, .ref a_th), (1, .int p_1), (2, .int p_2), (3, .int p_3), (4, .int p_4), (5, .int x2), (6, .int x3)] → W p l e (headSpec wsX10_isQuestion { frames := 2, cells := 0, slots := 0, locals := 47 }).room s m [.ref a_th, .int p_1, .int p_2, .int p_3, .int p_4].toArray below meth c H locs 0 0 Q (F0 m 57 ls [.int x41, .int (x2 - (1 : Int32)), .ref a_stack]) := by
            intro x41 H locs ls hm hP hS hl
            rw [ek57] at hm
            obtain ⟨h42, hm⟩ := gd_s hm
            refine va_zast hx hb hK hP (kb_D hD rfl) hS 2 2 rfl rfl (inB_s h42) dX10_isQuestion_57 (fun H locs hP _ hS => ?_)
            have hP : va_P (dC, dI) vwCl [oX10 a_th (.int v_thrown) q_text (.int v_textSize) (.int v_place) (.ref a_question) (.int v_questionSize) (.int v_facts) (.int v_isSo) (.int v_common) (.int v_readFacts) (.int v_readSo) (.int v_readCommon) (.int v_readDay) q_page (.long v_seed) q_book q_bookSeed (.int v_acts) q_kept q_isKept (.int v_told) q_toldSimple q_toldDay q_toldYes q_yesOf q_noOf q_factOf (.ref a_stack) q_one q_two q_three, aI cI a_question 16 v_question, aI cZ a_stack 17 (upd w4 (Int32.toNatClampNeg (x2 - (1 : Int32))) (vp_nar .boolean x41))] H := hP
            refine lv_goto (tgt := 248) hx hb dX10_isQuestion_58 (by decide) ?_
            exact J248 x2 (upd w4 (Int32.toNatClampNeg (x2 - (1 : Int32))) (vp_nar .boolean x41)) _ _ _ hm hP hS (lv_sub hl [0, 1, 2, 3, 4, 5, 6] rfl)
          refine lv_if_ne (tgt := 56) hx hb dX10_isQuestion_49 (by decide) (fun c43 => ?_) (fun c43 => ?_)
          · replace hm := ite_f c43 hm
            refine lv_iconst (v := (0 : Int32)) hx hb dX10_isQuestion_56 (by decide) ?_
            exact J57 (0 : Int32) _ _ _ hm hP hS (lv_sub hl [1, 2, 3, 4, 5, 6, 7] rfl)
          · replace hm := ite_t c43 hm
            refine lv_iconst (v := (1 : Int32)) hx hb dX10_isQuestion_52 (by decide) ?_
            refine lv_goto (tgt := 57) hx hb dX10_isQuestion_53 (by decide) ?_
            exact J57 (1 : Int32) _ _ _ hm hP hS (lv_sub hl [1, 2, 3, 4, 5, 6, 7] rfl)
  refine lp11 1024 (0 : Int32) x1 v_stack _ _ _ _ hm (fun w5 H locs ls hm hP hS hl => ?_) hP hS (lv_sub hl [2, 3, 4, 5, 6, 1, 0] rfl)
  refine lv_aload_n hx hb dX10_isQuestion_254 rfl (lv_at hl 0 rfl) ?_
  refine va_get (D := (dC, dI)) (ci := 8) (v := .ref a_stack) (C := RX10) (T := TX10) (N := 31) hx hb hts iX10 hown hK hP 0 rfl rfl 27 (by decide) f51 (fun _ h9 => h9) rfl dX10_isQuestion_255 ?_
  refine lv_iconst (v := (0 : Int32)) hx hb dX10_isQuestion_258 (by decide) ?_
  refine va_zald hx hb hK hP 2 2 rfl rfl (inB_s (by decide)) dX10_isQuestion_259 ?_
  obtain ⟨h44, hm⟩ := gd_s hm
  obtain rfl := Option.some.inj hm
  subst hQ
  exact W.zret hx hb hr (zB_n h44) (fun t ht hW => ⟨⟨_, (), rfl, rfl, kb_h hP ht⟩, hS.F ht⟩) hS.2.2 dX10_isQuestion_260
set_option maxHeartbeats 4000000 in
set_option maxRecDepth 100000 in
theorem c_X10_isSimple (l : Launch) (dC : Nat → ClassId) (dI : Nat → Nat → Nat) (cI cJ cZ cQ : ClassId) (t sz : Nat) (a_th : Nat) (q_text : Value) (q_question : Value) (q_page : Value) (q_book : Value) (q_bookSeed : Value) (q_kept : Value) (q_isKept : Value) (q_toldSimple : Value) (q_toldDay : Value) (q_toldYes : Value) (q_yesOf : Value) (q_noOf : Value) (q_factOf : Value) (q_stack : Value) (q_one : Value) (q_two : Value) (q_three : Value) (v_thrown : Int32) (v_textSize : Int32) (v_place : Int32) (v_questionSize : Int32) (v_facts : Int32) (v_isSo : Int32) (v_common : Int32) (v_readFacts : Int32) (v_readSo : Int32) (v_readCommon : Int32) (v_readDay : Int32) (v_seed : Int64) (v_acts : Int32) (v_told : Int32) (p_1 : Int32) (p_2 : Int32) (p_3 : Int32) (p_4 : Int32) (p_5 : Int32) (o : Int32) (hm : m_X10_isSimple p_1 p_2 p_3 p_4 p_5 = some o) : Met l yX10_isSimple wsX10_isSimple { frames := 1, cells := 0, slots := 0, locals := 21 } (va_Pc [.ref a_th, .int p_1, .int p_2, .int p_3, .int p_4, .int p_5] (cP (dC, dI) (kT cI cJ cZ cQ) t sz [oX10 a_th (.int v_thrown) q_text (.int v_textSize) (.int v_place) q_question (.int v_questionSize) (.int v_facts) (.int v_isSo) (.int v_common) (.int v_readFacts) (.int v_readSo) (.int v_readCommon) (.int v_readDay) q_page (.long v_seed) q_book q_bookSeed (.int v_acts) q_kept q_isKept (.int v_told) q_toldSimple q_toldDay q_toldYes q_yesOf q_noOf q_factOf q_stack q_one q_two q_three])) (cQi (dC, dI) (va_A [oX10 a_th (.int v_thrown) q_text (.int v_textSize) (.int v_place) q_question (.int v_questionSize) (.int v_facts) (.int v_isSo) (.int v_common) (.int v_readFacts) (.int v_readSo) (.int v_readCommon) (.int v_readDay) q_page (.long v_seed) q_book q_bookSeed (.int v_acts) q_kept q_isKept (.int v_told) q_toldSimple q_toldDay q_toldYes q_yesOf q_noOf q_factOf q_stack q_one q_two q_three] sz) o [oX10 a_th (.int v_thrown) q_text (.int v_textSize) (.int v_place) q_question (.int v_questionSize) (.int v_facts) (.int v_isSo) (.int v_common) (.int v_readFacts) (.int v_readSo) (.int v_readCommon) (.int v_readDay) q_page (.long v_seed) q_book q_bookSeed (.int v_acts) q_kept q_isKept (.int v_told) q_toldSimple q_toldDay q_toldYes q_yesOf q_noOf q_factOf q_stack q_one q_two q_three]) 0 0 (va_A [oX10 a_th (.int v_thrown) q_text (.int v_textSize) (.int v_place) q_question (.int v_questionSize) (.int v_facts) (.int v_isSo) (.int v_common) (.int v_readFacts) (.int v_readSo) (.int v_readCommon) (.int v_readDay) q_page (.long v_seed) q_book q_bookSeed (.int v_acts) q_kept q_isKept (.int v_told) q_toldSimple q_toldDay q_toldYes q_yesOf q_noOf q_factOf q_stack q_one q_two q_three] sz) := by
  refine Met.ofW (cc := cX10_isSimple) (maxL := 7) (ret := (some .boolean)) (by decide) rfl ?_
  intro p e s m args below meth c s₁ B hml hv
  obtain ⟨rfl, hsz, hP, hK, hD0, hG⟩ := hv
  have hx := B.exec
  have hb := B.bytes
  have hr := B.returns
  have hts := atoms_spec (ws := wsX10_isSimple) B.pre
  have hown : s.vm.findClass RX10 = some m.cls := findClass_of_methodNamed B.named
  have hlocks := B.notSynchronized
  subst hsz
  have hD := hD0.self (sz := s.heap.size)
  generalize hAe : va_A [oX10 a_th (.int v_thrown) q_text (.int v_textSize) (.int v_place) q_question (.int v_questionSize) (.int v_facts) (.int v_isSo) (.int v_common) (.int v_readFacts) (.int v_readSo) (.int v_readCommon) (.int v_readDay) q_page (.long v_seed) q_book q_bookSeed (.int v_acts) q_kept q_isKept (.int v_told) q_toldSimple q_toldDay q_toldYes q_yesOf q_noOf q_factOf q_stack q_one q_two q_three] s.heap.size = A at hD hG ⊢
  have hA : ∀ q : Nat, s.heap.size ≤ q → A q := fun q h => by rw [← hAe]; exact Or.inr h
  have hS : va_S A s.heap s.heap [] := va_S.rf
  have hl := lv_entry ([.ref a_th, .int p_1, .int p_2, .int p_3, .int p_4, .int p_5]) (n := 7) (Nat.le_of_ble_eq_true rfl)
  rw [lg_entry_eq]
  generalize (lg_sl ([.ref a_th, .int p_1, .int p_2, .int p_3, .int p_4, .int p_5]) ++ List.replicate (7 - (lg_sl ([.ref a_th, .int p_1, .int p_2, .int p_3, .int p_4, .int p_5])).length) Slot.unset).toArray = ls at hl ⊢
  have hl : lv_has ls 7 [(0, .ref a_th), (1, .int p_1), (2, .int p_2), (3, .int p_3), (4, .int p_4), (5, .int p_5)] := hl
  refine kb_gen (fun Q hQ => ?_)
  unfold m_X10_isSimple at hm
  refine lv_iload_n hx hb dX10_isSimple_0 rfl (lv_at hl 2 rfl) ?_
  refine lv_bipush (v := (7 : Int32)) hx hb dX10_isSimple_1 (by decide) ?_
  refine lv_irem hx hb dX10_isSimple_3 (by decide) ?_
  refine lv_iload_n hx hb dX10_isSimple_4 rfl (lv_at hl 3 rfl) ?_
  obtain ⟨k13, ek13, hm⟩ := nm_s hm
  have J13 : ∀ (x1 : Int32) (H : Heap) (locs : List Loc) (ls : Array Slot), k13 x1 = some o → va_P (dC, dI) vwCl [oX10 a_th (.int v_thrown) q_text (.int v_textSize) (.int v_place) q_question (.int v_questionSize) (.int v_facts) (.int v_isSo) (.int v_common) (.int v_readFacts) (.int v_readSo) (.int v_readCommon) (.int v_readDay) q_page (.long v_seed) q_book q_bookSeed (.int v_acts) q_kept q_isKept (.int v_told) q_toldSimple q_toldDay q_toldYes q_yesOf q_noOf q_factOf q_stack q_one q_two q_three] H → va_S A s.heap H locs → lv_has ls 7 [(1, .int p_1), (3, .int p_3), (4, .int p_4), (5, .int p_5)] → W p l e (headSpec wsX10_isSimple { frames := 1, cells := 0, slots := 0, locals := 21 }).room s m [.ref a_th, .int p_1, .int p_2, .int p_3, .int p_4, .int p_5].toArray below meth c H locs 0 0 Q (F0 m 13 ls [.int x1]) := by
    intro x1 H locs ls hm hP hS hl
    rw [ek13] at hm
    refine lv_istore (lv' := [(6, .int x1), (1, .int p_1), (3, .int p_3), (4, .int p_4), (5, .int p_5)]) hx hb dX10_isSimple_13 hl (by decide) rfl (fun ls hl => ?_)
    refine lv_iload_n hx hb dX10_isSimple_15 rfl (lv_at hl 1 rfl) ?_
    refine lv_iconst (v := (5 : Int32)) hx hb dX10_isSimple_16 (by decide) ?_
    refine lv_icmp_ge (tgt := 27) hx hb dX10_isSimple_17 (by decide) (fun c2 => ?_) (fun c2 => ?_)
    · replace hm := ite_t c2 hm
      refine lv_iload_n hx hb dX10_isSimple_27 rfl (lv_at hl 1 rfl) ?_
      refine lv_iconst (v := (5 : Int32)) hx hb dX10_isSimple_28 (by decide) ?_
      refine lv_icmp_ne (tgt := 35) hx hb dX10_isSimple_29 (by decide) (fun c3 => ?_) (fun c3 => ?_)
      · replace hm := ite_f c3 hm
        refine lv_iload_n hx hb dX10_isSimple_35 rfl (lv_at hl 1 rfl) ?_
        refine lv_bipush (v := (13 : Int32)) hx hb dX10_isSimple_36 (by decide) ?_
        refine lv_icmp_ge (tgt := 55) hx hb dX10_isSimple_38 (by decide) (fun c4 => ?_) (fun c4 => ?_)
        · replace hm := ite_t c4 hm
          refine lv_iload_n hx hb dX10_isSimple_55 rfl (lv_at hl 1 rfl) ?_
          refine lv_bipush (v := (18 : Int32)) hx hb dX10_isSimple_56 (by decide) ?_
          refine lv_icmp_ne (tgt := 66) hx hb dX10_isSimple_58 (by decide) (fun c5 => ?_) (fun c5 => ?_)
          · replace hm := ite_f c5 hm
            refine lv_iload hx hb dX10_isSimple_66 (lv_at hl 3 rfl) ?_
            refine lv_iload_n hx hb dX10_isSimple_68 rfl (lv_at hl 1 rfl) ?_
            refine lv_bipush (v := (13 : Int32)) hx hb dX10_isSimple_69 (by decide) ?_
            refine lv_isub hx hb dX10_isSimple_71 ?_
            obtain ⟨r6, ho7, hm⟩ := bd1_s hm
            refine kb_calli (Rv := r6) (va_runS (As := [.int p_4, .int (p_1 - (13 : Int32))]) (rest := []) ⟨hx, hb, hml, hown, hts⟩ (c_X10_has l dC dI cI cJ cZ cQ t H.size p_4 (p_1 - (13 : Int32)) (r6) ho7) (va_cwS 2 hts gX10_isSimple_X10_has rfl rfl rfl (by decide +kernel) ⟨(Nat.le_of_ble_eq_true rfl), (Nat.le_of_ble_eq_true rfl)⟩) (kb_pre hK hG hP (kb_D hD rfl) hS hA [] rfl (by decide)) rfl rfl hl.1 rfl (lv_room (Nat.le_of_ble_eq_true rfl)) dX10_isSimple_72 ⟨Nat.zero_le _, Nat.zero_le _⟩) hP (kb_D hD rfl) hS hA [] rfl [(false, 0)] (w2 := [oX10 a_th (.int v_thrown) q_text (.int v_textSize) (.int v_place) q_question (.int v_questionSize) (.int v_facts) (.int v_isSo) (.int v_common) (.int v_readFacts) (.int v_readSo) (.int v_readCommon) (.int v_readDay) q_page (.long v_seed) q_book q_bookSeed (.int v_acts) q_kept q_isKept (.int v_told) q_toldSimple q_toldDay q_toldYes q_yesOf q_noOf q_factOf q_stack q_one q_two q_three]) rfl (by decide) (fun H locs hP hS => ?_)
            refine lv_iload hx hb dX10_isSimple_75 (lv_at hl 0 rfl) ?_
            refine lv_icmp_eq (tgt := 84) hx hb dX10_isSimple_77 (by decide) (fun c8 => ?_) (fun c8 => ?_)
            · replace hm := ite_t c8 hm
              refine lv_iconst (v := (0 : Int32)) hx hb dX10_isSimple_84 (by decide) ?_
              obtain rfl := Option.some.inj hm
              subst hQ
              exact W.zret hx hb hr rfl (fun t ht hW => ⟨⟨_, (), rfl, rfl, kb_h hP ht⟩, hS.F ht⟩) hS.2.2 dX10_isSimple_85
            · replace hm := ite_f c8 hm
              refine lv_iconst (v := (1 : Int32)) hx hb dX10_isSimple_80 (by decide) ?_
              refine lv_goto (tgt := 85) hx hb dX10_isSimple_81 (by decide) ?_
              obtain rfl := Option.some.inj hm
              subst hQ
              exact W.zret hx hb hr rfl (fun t ht hW => ⟨⟨_, (), rfl, rfl, kb_h hP ht⟩, hS.F ht⟩) hS.2.2 dX10_isSimple_85
          · replace hm := ite_t c5 hm
            refine lv_iload hx hb dX10_isSimple_61 (lv_at hl 4 rfl) ?_
            refine lv_goto (tgt := 85) hx hb dX10_isSimple_63 (by decide) ?_
            obtain ⟨h9, hm⟩ := gd_s hm
            obtain rfl := Option.some.inj hm
            subst hQ
            exact W.zret hx hb hr (zB_n h9) (fun t ht hW => ⟨⟨_, (), rfl, rfl, kb_h hP ht⟩, hS.F ht⟩) hS.2.2 dX10_isSimple_85
        · replace hm := ite_f c4 hm
          refine lv_iload_n hx hb dX10_isSimple_41 rfl (lv_at hl 2 rfl) ?_
          refine lv_iload_n hx hb dX10_isSimple_42 rfl (lv_at hl 1 rfl) ?_
          refine lv_bipush (v := (6 : Int32)) hx hb dX10_isSimple_43 (by decide) ?_
          refine lv_isub hx hb dX10_isSimple_45 ?_
          refine lv_icmp_ne (tgt := 53) hx hb dX10_isSimple_46 (by decide) (fun c10 => ?_) (fun c10 => ?_)
          · replace hm := ite_f c10 hm
            refine lv_iconst (v := (0 : Int32)) hx hb dX10_isSimple_53 (by decide) ?_
            obtain rfl := Option.some.inj hm
            subst hQ
            exact W.zret hx hb hr rfl (fun t ht hW => ⟨⟨_, (), rfl, rfl, kb_h hP ht⟩, hS.F ht⟩) hS.2.2 dX10_isSimple_54
          · replace hm := ite_t c10 hm
            refine lv_iconst (v := (1 : Int32)) hx hb dX10_isSimple_49 (by decide) ?_
            refine lv_goto (tgt := 54) hx hb dX10_isSimple_50 (by decide) ?_
            obtain rfl := Option.some.inj hm
            subst hQ
            exact W.zret hx hb hr rfl (fun t ht hW => ⟨⟨_, (), rfl, rfl, kb_h hP ht⟩, hS.F ht⟩) hS.2.2 dX10_isSimple_54
      · replace hm := ite_t c3 hm
        refine lv_iload hx hb dX10_isSimple_32 (lv_at hl 0 rfl) ?_
        obtain ⟨h11, hm⟩ := gd_s hm
        obtain rfl := Option.some.inj hm
        subst hQ
        exact W.zret hx hb hr (zB_n h11) (fun t ht hW => ⟨⟨_, (), rfl, rfl, kb_h hP ht⟩, hS.F ht⟩) hS.2.2 dX10_isSimple_34
    · replace hm := ite_f c2 hm
      refine lv_iload hx hb dX10_isSimple_20 (lv_at hl 3 rfl) ?_
      refine lv_iload_n hx hb dX10_isSimple_22 rfl (lv_at hl 1 rfl) ?_
      obtain ⟨r12, ho13, hm⟩ := bd1_s hm
      refine kb_calli (Rv := r12) (va_runS (As := [.int p_4, .int p_1]) (rest := []) ⟨hx, hb, hml, hown, hts⟩ (c_X10_has l dC dI cI cJ cZ cQ t H.size p_4 p_1 (r12) ho13) (va_cwS 2 hts gX10_isSimple_X10_has rfl rfl rfl (by decide +kernel) ⟨(Nat.le_of_ble_eq_true rfl), (Nat.le_of_ble_eq_true rfl)⟩) (kb_pre hK hG hP (kb_D hD rfl) hS hA [] rfl (by decide)) rfl rfl hl.1 rfl (lv_room (Nat.le_of_ble_eq_true rfl)) dX10_isSimple_23 ⟨Nat.zero_le _, Nat.zero_le _⟩) hP (kb_D hD rfl) hS hA [] rfl [(false, 0)] (w2 := [oX10 a_th (.int v_thrown) q_text (.int v_textSize) (.int v_place) q_question (.int v_questionSize) (.int v_facts) (.int v_isSo) (.int v_common) (.int v_readFacts) (.int v_readSo) (.int v_readCommon) (.int v_readDay) q_page (.long v_seed) q_book q_bookSeed (.int v_acts) q_kept q_isKept (.int v_told) q_toldSimple q_toldDay q_toldYes q_yesOf q_noOf q_factOf q_stack q_one q_two q_three]) rfl (by decide) (fun H locs hP hS => ?_)
      obtain ⟨h14, hm⟩ := gd_s hm
      obtain rfl := Option.some.inj hm
      subst hQ
      exact W.zret hx hb hr (zB_n h14) (fun t ht hW => ⟨⟨_, (), rfl, rfl, kb_h hP ht⟩, hS.F ht⟩) hS.2.2 dX10_isSimple_26
  refine lv_icmp_ne (tgt := 12) hx hb dX10_isSimple_5 (by decide) (fun c15 => ?_) (fun c15 => ?_)
  · replace hm := ite_f c15 hm
    refine lv_iconst (v := (0 : Int32)) hx hb dX10_isSimple_12 (by decide) ?_
    exact J13 (0 : Int32) _ _ _ hm hP hS (lv_sub hl [1, 3, 4, 5] rfl)
  · replace hm := ite_t c15 hm
    refine lv_iconst (v := (1 : Int32)) hx hb dX10_isSimple_8 (by decide) ?_
    refine lv_goto (tgt := 13) hx hb dX10_isSimple_9 (by decide) ?_
    exact J13 (1 : Int32) _ _ _ hm hP hS (lv_sub hl [1, 3, 4, 5] rfl)
set_option maxHeartbeats 4000000 in
set_option maxRecDepth 100000 in
theorem c_X10_answerOf (l : Launch) (dC : Nat → ClassId) (dI : Nat → Nat → Nat) (cI cJ cZ cQ : ClassId) (t sz : Nat) (a_th : Nat) (a_question : Nat) (a_stack : Nat) (q_text : Value) (q_page : Value) (q_book : Value) (q_bookSeed : Value) (q_kept : Value) (q_isKept : Value) (q_toldSimple : Value) (q_toldDay : Value) (q_toldYes : Value) (q_yesOf : Value) (q_noOf : Value) (q_factOf : Value) (q_one : Value) (q_two : Value) (q_three : Value) (v_thrown : Int32) (v_textSize : Int32) (v_place : Int32) (v_questionSize : Int32) (v_facts : Int32) (v_isSo : Int32) (v_common : Int32) (v_readFacts : Int32) (v_readSo : Int32) (v_readCommon : Int32) (v_readDay : Int32) (v_seed : Int64) (v_acts : Int32) (v_told : Int32) (v_question : (Nat → Int32)) (v_stack : (Nat → Int32)) (p_1 : Int32) (p_2 : Int32) (p_3 : Int32) (p_4 : Int32) (p_5 : Int32) (o : Int32 × (Nat → Int32)) (hm : m_X10_answerOf p_1 p_2 p_3 p_4 p_5 v_questionSize v_facts v_question v_stack = some o) : Met l yX10_answerOf wsX10_answerOf { frames := 3, cells := 0, slots := 0, locals := 76 } (va_Pc [.ref a_th, .int p_1, .int p_2, .int p_3, .int p_4, .int p_5] (cP (dC, dI) (kT cI cJ cZ cQ) t sz [oX10 a_th (.int v_thrown) q_text (.int v_textSize) (.int v_place) (.ref a_question) (.int v_questionSize) (.int v_facts) (.int v_isSo) (.int v_common) (.int v_readFacts) (.int v_readSo) (.int v_readCommon) (.int v_readDay) q_page (.long v_seed) q_book q_bookSeed (.int v_acts) q_kept q_isKept (.int v_told) q_toldSimple q_toldDay q_toldYes q_yesOf q_noOf q_factOf (.ref a_stack) q_one q_two q_three, aI cI a_question 16 v_question, aI cZ a_stack 17 v_stack])) (cQi (dC, dI) (va_A [oX10 a_th (.int v_thrown) q_text (.int v_textSize) (.int v_place) (.ref a_question) (.int v_questionSize) (.int v_facts) (.int v_isSo) (.int v_common) (.int v_readFacts) (.int v_readSo) (.int v_readCommon) (.int v_readDay) q_page (.long v_seed) q_book q_bookSeed (.int v_acts) q_kept q_isKept (.int v_told) q_toldSimple q_toldDay q_toldYes q_yesOf q_noOf q_factOf (.ref a_stack) q_one q_two q_three, aI cI a_question 16 v_question, aI cZ a_stack 17 v_stack] sz) o.1 [oX10 a_th (.int v_thrown) q_text (.int v_textSize) (.int v_place) (.ref a_question) (.int v_questionSize) (.int v_facts) (.int v_isSo) (.int v_common) (.int v_readFacts) (.int v_readSo) (.int v_readCommon) (.int v_readDay) q_page (.long v_seed) q_book q_bookSeed (.int v_acts) q_kept q_isKept (.int v_told) q_toldSimple q_toldDay q_toldYes q_yesOf q_noOf q_factOf (.ref a_stack) q_one q_two q_three, aI cI a_question 16 v_question, aI cZ a_stack 17 (o.2)]) 0 0 (va_A [oX10 a_th (.int v_thrown) q_text (.int v_textSize) (.int v_place) (.ref a_question) (.int v_questionSize) (.int v_facts) (.int v_isSo) (.int v_common) (.int v_readFacts) (.int v_readSo) (.int v_readCommon) (.int v_readDay) q_page (.long v_seed) q_book q_bookSeed (.int v_acts) q_kept q_isKept (.int v_told) q_toldSimple q_toldDay q_toldYes q_yesOf q_noOf q_factOf (.ref a_stack) q_one q_two q_three, aI cI a_question 16 v_question, aI cZ a_stack 17 v_stack] sz) := by
  refine Met.ofW (cc := cX10_answerOf) (maxL := 9) (ret := (some .int)) (by decide) rfl ?_
  intro p e s m args below meth c s₁ B hml hv
  obtain ⟨rfl, hsz, hP, hK, hD0, hG⟩ := hv
  have hx := B.exec
  have hb := B.bytes
  have hr := B.returns
  have hts := atoms_spec (ws := wsX10_answerOf) B.pre
  have hown : s.vm.findClass RX10 = some m.cls := findClass_of_methodNamed B.named
  have hlocks := B.notSynchronized
  subst hsz
  have hD := hD0.self (sz := s.heap.size)
  generalize hAe : va_A [oX10 a_th (.int v_thrown) q_text (.int v_textSize) (.int v_place) (.ref a_question) (.int v_questionSize) (.int v_facts) (.int v_isSo) (.int v_common) (.int v_readFacts) (.int v_readSo) (.int v_readCommon) (.int v_readDay) q_page (.long v_seed) q_book q_bookSeed (.int v_acts) q_kept q_isKept (.int v_told) q_toldSimple q_toldDay q_toldYes q_yesOf q_noOf q_factOf (.ref a_stack) q_one q_two q_three, aI cI a_question 16 v_question, aI cZ a_stack 17 v_stack] s.heap.size = A at hD hG ⊢
  have hA : ∀ q : Nat, s.heap.size ≤ q → A q := fun q h => by rw [← hAe]; exact Or.inr h
  have hS : va_S A s.heap s.heap [] := va_S.rf
  have hl := lv_entry ([.ref a_th, .int p_1, .int p_2, .int p_3, .int p_4, .int p_5]) (n := 9) (Nat.le_of_ble_eq_true rfl)
  rw [lg_entry_eq]
  generalize (lg_sl ([.ref a_th, .int p_1, .int p_2, .int p_3, .int p_4, .int p_5]) ++ List.replicate (9 - (lg_sl ([.ref a_th, .int p_1, .int p_2, .int p_3, .int p_4, .int p_5])).length) Slot.unset).toArray = ls at hl ⊢
  have hl : lv_has ls 9 [(0, .ref a_th), (1, .int p_1), (2, .int p_2), (3, .int p_3), (4, .int p_4), (5, .int p_5)] := hl
  have iX10 : ∀ w ∈ wsX100, w ∈ wsX10_answerOf := fun _ h => List.mem_cons_of_mem _ (List.mem_append_right _ h)
  refine kb_gen (fun Q hQ => ?_)
  unfold m_X10_answerOf at hm
  refine lv_iload_n hx hb dX10_answerOf_0 rfl (lv_at hl 2 rfl) ?_
  refine lv_bipush (v := (7 : Int32)) hx hb dX10_answerOf_1 (by decide) ?_
  refine lv_irem hx hb dX10_answerOf_3 (by decide) ?_
  refine lv_iload hx hb dX10_answerOf_4 (lv_at hl 4 rfl) ?_
  obtain ⟨k14, ek14, hm⟩ := nm_s hm
  have J14 : ∀ (x1 : Int32) (H : Heap) (locs : List Loc) (ls : Array Slot), k14 x1 = some o → va_P (dC, dI) vwCl [oX10 a_th (.int v_thrown) q_text (.int v_textSize) (.int v_place) (.ref a_question) (.int v_questionSize) (.int v_facts) (.int v_isSo) (.int v_common) (.int v_readFacts) (.int v_readSo) (.int v_readCommon) (.int v_readDay) q_page (.long v_seed) q_book q_bookSeed (.int v_acts) q_kept q_isKept (.int v_told) q_toldSimple q_toldDay q_toldYes q_yesOf q_noOf q_factOf (.ref a_stack) q_one q_two q_three, aI cI a_question 16 v_question, aI cZ a_stack 17 v_stack] H → va_S A s.heap H locs → lv_has ls 9 [(0, .ref a_th), (1, .int p_1), (2, .int p_2), (3, .int p_3), (5, .int p_5)] → W p l e (headSpec wsX10_answerOf { frames := 3, cells := 0, slots := 0, locals := 76 }).room s m [.ref a_th, .int p_1, .int p_2, .int p_3, .int p_4, .int p_5].toArray below meth c H locs 0 0 Q (F0 m 14 ls [.int x1]) := by
    intro x1 H locs ls hm hP hS hl
    rw [ek14] at hm
    refine lv_istore (lv' := [(6, .int x1), (0, .ref a_th), (1, .int p_1), (2, .int p_2), (3, .int p_3), (5, .int p_5)]) hx hb dX10_answerOf_14 hl (by decide) rfl (fun ls hl => ?_)
    refine lv_iload_n hx hb dX10_answerOf_16 rfl (lv_at hl 2 rfl) ?_
    refine lv_bipush (v := (-9 : Int32)) hx hb dX10_answerOf_17 (by decide) ?_
    obtain ⟨k44, ek44, hm⟩ := nm_s hm
    have J44 : ∀ (x2 : Int32) (w3 : (Nat → Int32)) (H : Heap) (locs : List Loc) (ls : Array Slot), k44 x2 w3 = some o → va_P (dC, dI) vwCl [oX10 a_th (.int v_thrown) q_text (.int v_textSize) (.int v_place) (.ref a_question) (.int v_questionSize) (.int v_facts) (.int v_isSo) (.int v_common) (.int v_readFacts) (.int v_readSo) (.int v_readCommon) (.int v_readDay) q_page (.long v_seed) q_book q_bookSeed (.int v_acts) q_kept q_isKept (.int v_told) q_toldSimple q_toldDay q_toldYes q_yesOf q_noOf q_factOf (.ref a_stack) q_one q_two q_three, aI cI a_question 16 v_question, aI cZ a_stack 17 w3] H → va_S A s.heap H locs → lv_has ls 9 [(0, .ref a_th), (1, .int p_1), (2, .int p_2), (3, .int p_3), (5, .int p_5), (6, .int x1)] → W p l e (headSpec wsX10_answerOf { frames := 3, cells := 0, slots := 0, locals := 76 }).room s m [.ref a_th, .int p_1, .int p_2, .int p_3, .int p_4, .int p_5].toArray below meth c H locs 0 0 Q (F0 m 44 ls [.int x2]) := by
      intro x2 w3 H locs ls hm hP hS hl
      rw [ek44] at hm
      refine lv_istore (lv' := [(7, .int x2), (0, .ref a_th), (1, .int p_1), (2, .int p_2), (3, .int p_3), (5, .int p_5), (6, .int x1)]) hx hb dX10_answerOf_44 hl (by decide) rfl (fun ls hl => ?_)
      refine lv_iload hx hb dX10_answerOf_46 (lv_at hl 0 rfl) ?_
      refine lv_iload hx hb dX10_answerOf_48 (lv_at hl 6 rfl) ?_
      refine lv_icmp_ne (tgt := 55) hx hb dX10_answerOf_50 (by decide) (fun c4 => ?_) (fun c4 => ?_)
      · replace hm := ite_f c4 hm
        refine lv_iload_n hx hb dX10_answerOf_55 rfl (lv_at hl 2 rfl) ?_
        refine lv_bipush (v := (-9 : Int32)) hx hb dX10_answerOf_56 (by decide) ?_
        obtain ⟨k83, ek83, hm⟩ := nm_s hm
        have J83 : ∀ (x5 : Int32) (w6 : (Nat → Int32)) (H : Heap) (locs : List Loc) (ls : Array Slot), k83 x5 w6 = some o → va_P (dC, dI) vwCl [oX10 a_th (.int v_thrown) q_text (.int v_textSize) (.int v_place) (.ref a_question) (.int v_questionSize) (.int v_facts) (.int v_isSo) (.int v_common) (.int v_readFacts) (.int v_readSo) (.int v_readCommon) (.int v_readDay) q_page (.long v_seed) q_book q_bookSeed (.int v_acts) q_kept q_isKept (.int v_told) q_toldSimple q_toldDay q_toldYes q_yesOf q_noOf q_factOf (.ref a_stack) q_one q_two q_three, aI cI a_question 16 v_question, aI cZ a_stack 17 w6] H → va_S A s.heap H locs → lv_has ls 9 [(6, .int x1)] → W p l e (headSpec wsX10_answerOf { frames := 3, cells := 0, slots := 0, locals := 76 }).room s m [.ref a_th, .int p_1, .int p_2, .int p_3, .int p_4, .int p_5].toArray below meth c H locs 0 0 Q (F0 m 83 ls [.int x5]) := by
          intro x5 w6 H locs ls hm hP hS hl
          rw [ek83] at hm
          refine lv_istore (lv' := [(8, .int x5), (6, .int x1)]) hx hb dX10_answerOf_83 hl (by decide) rfl (fun ls hl => ?_)
          refine lv_iload hx hb dX10_answerOf_85 (lv_at hl 0 rfl) ?_
          refine lv_iload hx hb dX10_answerOf_87 (lv_at hl 1 rfl) ?_
          refine lv_icmp_eq (tgt := 96) hx hb dX10_answerOf_89 (by decide) (fun c7 => ?_) (fun c7 => ?_)
          · replace hm := ite_t c7 hm
            refine lv_bipush (v := (-9 : Int32)) hx hb dX10_answerOf_96 (by decide) ?_
            obtain rfl := Option.some.inj hm
            subst hQ
            exact W.iret hx hb hr (fun t ht hW => ⟨⟨_, (), rfl, rfl, kb_h hP ht⟩, hS.F ht⟩) hS.2.2 dX10_answerOf_98
          · replace hm := ite_f c7 hm
            refine lv_iconst (v := (0 : Int32)) hx hb dX10_answerOf_92 (by decide) ?_
            refine lv_goto (tgt := 98) hx hb dX10_answerOf_93 (by decide) ?_
            obtain rfl := Option.some.inj hm
            subst hQ
            exact W.iret hx hb hr (fun t ht hW => ⟨⟨_, (), rfl, rfl, kb_h hP ht⟩, hS.F ht⟩) hS.2.2 dX10_answerOf_98
        refine lv_icmp_ne (tgt := 73) hx hb dX10_answerOf_58 (by decide) (fun c8 => ?_) (fun c8 => ?_)
        · replace hm := ite_f c8 hm
          refine lv_aload_n hx hb dX10_answerOf_73 rfl (lv_at hl 1 rfl) ?_
          refine lv_iload_n hx hb dX10_answerOf_74 rfl (lv_at hl 2 rfl) ?_
          refine lv_iload_n hx hb dX10_answerOf_75 rfl (lv_at hl 3 rfl) ?_
          refine lv_iload_n hx hb dX10_answerOf_76 rfl (lv_at hl 4 rfl) ?_
          refine lv_iload hx hb dX10_answerOf_77 (lv_at hl 5 rfl) ?_
          refine lv_iconst (v := (0 : Int32)) hx hb dX10_answerOf_79 (by decide) ?_
          obtain ⟨r9, ho10, hm⟩ := bd1_s hm
          refine kb_calli (Rv := r9) (va_runV (As := [.int p_1, .int p_2, .int p_3, .int p_5, .int (0 : Int32)]) (rest := []) ⟨hx, hb, hml, hown, hts⟩ (c_X10_isSimple l dC dI cI cJ cZ cQ t H.size a_th q_text (.ref a_question) q_page q_book q_bookSeed q_kept q_isKept q_toldSimple q_toldDay q_toldYes q_yesOf q_noOf q_factOf (.ref a_stack) q_one q_two q_three v_thrown v_textSize v_place v_questionSize v_facts v_isSo v_common v_readFacts v_readSo v_readCommon v_readDay v_seed v_acts v_told p_1 p_2 p_3 p_5 (0 : Int32) (r9) ho10) (cwV 5 hts gX10_answerOf_X10_isSimple rfl rfl rfl (by decide +kernel) ⟨(Nat.le_of_ble_eq_true rfl), (Nat.le_of_ble_eq_true rfl)⟩) ⟨(kb_pre hK hG hP (kb_D hD rfl) hS hA [0] rfl (by decide)).1, (va_recv hK hP (ci := 8) (q0 := 0) rfl rfl), (kb_pre hK hG hP (kb_D hD rfl) hS hA [0] rfl (by decide)).2⟩ rfl rfl hl.1 rfl (lv_room (Nat.le_of_ble_eq_true rfl)) dX10_answerOf_80 ⟨Nat.zero_le _, Nat.zero_le _⟩) hP (kb_D hD rfl) hS hA [0] rfl [(true, 0), (false, 1), (false, 2)] (w2 := [oX10 a_th (.int v_thrown) q_text (.int v_textSize) (.int v_place) (.ref a_question) (.int v_questionSize) (.int v_facts) (.int v_isSo) (.int v_common) (.int v_readFacts) (.int v_readSo) (.int v_readCommon) (.int v_readDay) q_page (.long v_seed) q_book q_bookSeed (.int v_acts) q_kept q_isKept (.int v_told) q_toldSimple q_toldDay q_toldYes q_yesOf q_noOf q_factOf (.ref a_stack) q_one q_two q_three, aI cI a_question 16 v_question, aI cZ a_stack 17 w3]) rfl (by decide) (fun H locs hP hS => ?_)
          exact J83 r9 w3 _ _ _ hm hP hS (lv_sub hl [6] rfl)
        · replace hm := ite_t c8 hm
          refine lv_aload_n hx hb dX10_answerOf_61 rfl (lv_at hl 1 rfl) ?_
          refine lv_iload_n hx hb dX10_answerOf_62 rfl (lv_at hl 3 rfl) ?_
          refine lv_iload_n hx hb dX10_answerOf_63 rfl (lv_at hl 4 rfl) ?_
          refine lv_iload hx hb dX10_answerOf_64 (lv_at hl 5 rfl) ?_
          refine lv_iconst (v := (0 : Int32)) hx hb dX10_answerOf_66 (by decide) ?_
          obtain ⟨r11, w12, ho13, hm⟩ := bd2_s hm
          refine kb_calli (Rv := r11) (va_runV (As := [.int p_2, .int p_3, .int p_5, .int (0 : Int32)]) (rest := []) ⟨hx, hb, hml, hown, hts⟩ (c_X10_isQuestion l dC dI cI cJ cZ cQ t H.size a_th a_question a_stack q_text q_page q_book q_bookSeed q_kept q_isKept q_toldSimple q_toldDay q_toldYes q_yesOf q_noOf q_factOf q_one q_two q_three v_thrown v_textSize v_place v_questionSize v_facts v_isSo v_common v_readFacts v_readSo v_readCommon v_readDay v_seed v_acts v_told v_question w3 p_2 p_3 p_5 (0 : Int32) (r11, w12) ho13) (cwV 4 hts gX10_answerOf_X10_isQuestion rfl rfl rfl (by decide +kernel) ⟨(Nat.le_of_ble_eq_true rfl), (Nat.le_of_ble_eq_true rfl)⟩) ⟨(kb_pre hK hG hP (kb_D hD rfl) hS hA [0, 1, 2] rfl (by decide)).1, (va_recv hK hP (ci := 8) (q0 := 0) rfl rfl), (kb_pre hK hG hP (kb_D hD rfl) hS hA [0, 1, 2] rfl (by decide)).2⟩ rfl rfl hl.1 rfl (lv_room (Nat.le_of_ble_eq_true rfl)) dX10_answerOf_67 ⟨Nat.zero_le _, Nat.zero_le _⟩) hP (kb_D hD rfl) hS hA [0, 1, 2] rfl [(true, 0), (true, 1), (true, 2)] (w2 := [oX10 a_th (.int v_thrown) q_text (.int v_textSize) (.int v_place) (.ref a_question) (.int v_questionSize) (.int v_facts) (.int v_isSo) (.int v_common) (.int v_readFacts) (.int v_readSo) (.int v_readCommon) (.int v_readDay) q_page (.long v_seed) q_book q_bookSeed (.int v_acts) q_kept q_isKept (.int v_told) q_toldSimple q_toldDay q_toldYes q_yesOf q_noOf q_factOf (.ref a_stack) q_one q_two q_three, aI cI a_question 16 v_question, aI cZ a_stack 17 w12]) rfl (by decide) (fun H locs hP hS => ?_)
          refine lv_goto (tgt := 83) hx hb dX10_answerOf_70 (by decide) ?_
          exact J83 r11 w12 _ _ _ hm hP hS (lv_sub hl [6] rfl)
      · replace hm := ite_t c4 hm
        refine lv_iconst (v := (1 : Int32)) hx hb dX10_answerOf_53 (by decide) ?_
        obtain rfl := Option.some.inj hm
        subst hQ
        exact W.iret hx hb hr (fun t ht hW => ⟨⟨_, (), rfl, rfl, kb_h hP ht⟩, hS.F ht⟩) hS.2.2 dX10_answerOf_54
    refine lv_icmp_ne (tgt := 34) hx hb dX10_answerOf_19 (by decide) (fun c14 => ?_) (fun c14 => ?_)
    · replace hm := ite_f c14 hm
      refine lv_aload_n hx hb dX10_answerOf_34 rfl (lv_at hl 1 rfl) ?_
      refine lv_iload_n hx hb dX10_answerOf_35 rfl (lv_at hl 2 rfl) ?_
      refine lv_iload_n hx hb dX10_answerOf_36 rfl (lv_at hl 3 rfl) ?_
      refine lv_iload_n hx hb dX10_answerOf_37 rfl (lv_at hl 4 rfl) ?_
      refine lv_iload hx hb dX10_answerOf_38 (lv_at hl 5 rfl) ?_
      refine lv_iconst (v := (1 : Int32)) hx hb dX10_answerOf_40 (by decide) ?_
      obtain ⟨r15, ho16, hm⟩ := bd1_s hm
      refine kb_calli (Rv := r15) (va_runV (As := [.int p_1, .int p_2, .int p_3, .int p_5, .int (1 : Int32)]) (rest := []) ⟨hx, hb, hml, hown, hts⟩ (c_X10_isSimple l dC dI cI cJ cZ cQ t H.size a_th q_text (.ref a_question) q_page q_book q_bookSeed q_kept q_isKept q_toldSimple q_toldDay q_toldYes q_yesOf q_noOf q_factOf (.ref a_stack) q_one q_two q_three v_thrown v_textSize v_place v_questionSize v_facts v_isSo v_common v_readFacts v_readSo v_readCommon v_readDay v_seed v_acts v_told p_1 p_2 p_3 p_5 (1 : Int32) (r15) ho16) (cwV 5 hts gX10_answerOf_X10_isSimple rfl rfl rfl (by decide +kernel) ⟨(Nat.le_of_ble_eq_true rfl), (Nat.le_of_ble_eq_true rfl)⟩) ⟨(kb_pre hK hG hP (kb_D hD rfl) hS hA [0] rfl (by decide)).1, (va_recv hK hP (ci := 8) (q0 := 0) rfl rfl), (kb_pre hK hG hP (kb_D hD rfl) hS hA [0] rfl (by decide)).2⟩ rfl rfl hl.1 rfl (lv_room (Nat.le_of_ble_eq_true rfl)) dX10_answerOf_41 ⟨Nat.zero_le _, Nat.zero_le _⟩) hP (kb_D hD rfl) hS hA [0] rfl [(true, 0), (false, 1), (false, 2)] (w2 := [oX10 a_th (.int v_thrown) q_text (.int v_textSize) (.int v_place) (.ref a_question) (.int v_questionSize) (.int v_facts) (.int v_isSo) (.int v_common) (.int v_readFacts) (.int v_readSo) (.int v_readCommon) (.int v_readDay) q_page (.long v_seed) q_book q_bookSeed (.int v_acts) q_kept q_isKept (.int v_told) q_toldSimple q_toldDay q_toldYes q_yesOf q_noOf q_factOf (.ref a_stack) q_one q_two q_three, aI cI a_question 16 v_question, aI cZ a_stack 17 v_stack]) rfl (by decide) (fun H locs hP hS => ?_)
      exact J44 r15 v_stack _ _ _ hm hP hS (lv_sub hl [1, 2, 3, 4, 5, 0] rfl)
    · replace hm := ite_t c14 hm
      refine lv_aload_n hx hb dX10_answerOf_22 rfl (lv_at hl 1 rfl) ?_
      refine lv_iload_n hx hb dX10_answerOf_23 rfl (lv_at hl 3 rfl) ?_
      refine lv_iload_n hx hb dX10_answerOf_24 rfl (lv_at hl 4 rfl) ?_
      refine lv_iload hx hb dX10_answerOf_25 (lv_at hl 5 rfl) ?_
      refine lv_iconst (v := (1 : Int32)) hx hb dX10_answerOf_27 (by decide) ?_
      obtain ⟨r17, w18, ho19, hm⟩ := bd2_s hm
      refine kb_calli (Rv := r17) (va_runV (As := [.int p_2, .int p_3, .int p_5, .int (1 : Int32)]) (rest := []) ⟨hx, hb, hml, hown, hts⟩ (c_X10_isQuestion l dC dI cI cJ cZ cQ t H.size a_th a_question a_stack q_text q_page q_book q_bookSeed q_kept q_isKept q_toldSimple q_toldDay q_toldYes q_yesOf q_noOf q_factOf q_one q_two q_three v_thrown v_textSize v_place v_questionSize v_facts v_isSo v_common v_readFacts v_readSo v_readCommon v_readDay v_seed v_acts v_told v_question v_stack p_2 p_3 p_5 (1 : Int32) (r17, w18) ho19) (cwV 4 hts gX10_answerOf_X10_isQuestion rfl rfl rfl (by decide +kernel) ⟨(Nat.le_of_ble_eq_true rfl), (Nat.le_of_ble_eq_true rfl)⟩) ⟨(kb_pre hK hG hP (kb_D hD rfl) hS hA [0, 1, 2] rfl (by decide)).1, (va_recv hK hP (ci := 8) (q0 := 0) rfl rfl), (kb_pre hK hG hP (kb_D hD rfl) hS hA [0, 1, 2] rfl (by decide)).2⟩ rfl rfl hl.1 rfl (lv_room (Nat.le_of_ble_eq_true rfl)) dX10_answerOf_28 ⟨Nat.zero_le _, Nat.zero_le _⟩) hP (kb_D hD rfl) hS hA [0, 1, 2] rfl [(true, 0), (true, 1), (true, 2)] (w2 := [oX10 a_th (.int v_thrown) q_text (.int v_textSize) (.int v_place) (.ref a_question) (.int v_questionSize) (.int v_facts) (.int v_isSo) (.int v_common) (.int v_readFacts) (.int v_readSo) (.int v_readCommon) (.int v_readDay) q_page (.long v_seed) q_book q_bookSeed (.int v_acts) q_kept q_isKept (.int v_told) q_toldSimple q_toldDay q_toldYes q_yesOf q_noOf q_factOf (.ref a_stack) q_one q_two q_three, aI cI a_question 16 v_question, aI cZ a_stack 17 w18]) rfl (by decide) (fun H locs hP hS => ?_)
      refine lv_goto (tgt := 44) hx hb dX10_answerOf_31 (by decide) ?_
      exact J44 r17 w18 _ _ _ hm hP hS (lv_sub hl [1, 2, 3, 4, 5, 0] rfl)
  refine lv_icmp_ne (tgt := 13) hx hb dX10_answerOf_6 (by decide) (fun c20 => ?_) (fun c20 => ?_)
  · replace hm := ite_f c20 hm
    refine lv_iconst (v := (0 : Int32)) hx hb dX10_answerOf_13 (by decide) ?_
    exact J14 (0 : Int32) _ _ _ hm hP hS (lv_sub hl [0, 1, 2, 3, 5] rfl)
  · replace hm := ite_t c20 hm
    refine lv_iconst (v := (1 : Int32)) hx hb dX10_answerOf_9 (by decide) ?_
    refine lv_goto (tgt := 14) hx hb dX10_answerOf_10 (by decide) ?_
    exact J14 (1 : Int32) _ _ _ hm hP hS (lv_sub hl [0, 1, 2, 3, 5] rfl)
