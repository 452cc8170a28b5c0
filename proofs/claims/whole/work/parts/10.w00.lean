set_option maxHeartbeats 4000000 in
set_option maxRecDepth 100000 in
theorem c_X3_append (l : Launch) (dC : Nat → ClassId) (dI : Nat → Nat → Nat) (cI cJ cZ cQ : ClassId) (t sz : Nat) (a_th : Nat) (a_bytes : Nat) (n_bytes : Nat) (v_length : Int32) (v_bytes : (Nat → Int32)) (p_1 : Int32) (o : Int32 × Int32 × (Nat → Int32)) (hm : m_X3_append p_1 n_bytes v_length v_bytes = some o) : Met l yX3_append wsX3_append { frames := 0, cells := 0, slots := 0, locals := 0 } (va_Pc [.ref a_th, .int p_1] (cP (dC, dI) (kT cI cJ cZ cQ) t sz [oX3 a_th (.ref a_bytes) (.int v_length), aI cI a_bytes n_bytes v_bytes])) (cQi (dC, dI) (va_A [oX3 a_th (.ref a_bytes) (.int v_length), aI cI a_bytes n_bytes v_bytes] sz) o.1 [oX3 a_th (.ref a_bytes) (.int (o.2.1)), aI cI a_bytes n_bytes (o.2.2)]) 0 0 (va_A [oX3 a_th (.ref a_bytes) (.int v_length), aI cI a_bytes n_bytes v_bytes] sz) := by
  refine Met.ofW (cc := cX3_append) (maxL := 2) (ret := (some .int)) (by decide) rfl ?_
  intro p e s m args below meth c s₁ B hml hv
  obtain ⟨rfl, hsz, hP, hK, hD0, hG⟩ := hv
  have hx := B.exec
  have hb := B.bytes
  have hr := B.returns
  have hts := atoms_spec (ws := wsX3_append) B.pre
  have hown : s.vm.findClass RX3 = some m.cls := findClass_of_methodNamed B.named
  have hlocks := B.notSynchronized
  subst hsz
  have hD := hD0.self (sz := s.heap.size)
  generalize hAe : va_A [oX3 a_th (.ref a_bytes) (.int v_length), aI cI a_bytes n_bytes v_bytes] s.heap.size = A at hD hG ⊢
  have hA : ∀ q : Nat, s.heap.size ≤ q → A q := fun q h => by rw [← hAe]; exact Or.inr h
  have hS : va_S A s.heap s.heap [] := va_S.rf
  have hl := lv_entry ([.ref a_th, .int p_1]) (n := 2) (Nat.le_of_ble_eq_true rfl)
  rw [lg_entry_eq]
  generalize (lg_sl ([.ref a_th, .int p_1]) ++ List.replicate (2 - (lg_sl ([.ref a_th, .int p_1])).length) Slot.unset).toArray = ls at hl ⊢
  have hl : lv_has ls 2 [(0, .ref a_th), (1, .int p_1)] := hl
  have iX3 : ∀ w ∈ wsX30, w ∈ wsX3_append := fun _ h => List.mem_cons_of_mem _ (List.mem_append_right _ h)
  have f21 := hts (.fieldLink RX3 21 "TrueOnceWeek$Letters" "length" "I") (by decide +kernel)
  have f15 := hts (.fieldLink RX3 15 "TrueOnceWeek$Letters" "bytes" "[I") (by decide +kernel)
  refine kb_gen (fun Q hQ => ?_)
  unfold m_X3_append at hm
  refine lv_iload_n hx hb dX3_append_0 rfl (lv_at hl 1 rfl) ?_
  refine lv_if_lt (tgt := 11) hx hb dX3_append_1 (by decide) (fun c1 => ?_) (fun c1 => ?_)
  · replace hm := ite_t c1 hm
    refine lv_bipush (v := (-2 : Int32)) hx hb dX3_append_11 (by decide) ?_
    obtain rfl := Option.some.inj hm
    subst hQ
    exact W.iret hx hb hr (fun t ht hW => ⟨⟨_, (), rfl, rfl, kb_h hP ht⟩, hS.F ht⟩) hS.2.2 dX3_append_13
  · replace hm := ite_f c1 hm
    refine lv_iload_n hx hb dX3_append_4 rfl (lv_at hl 1 rfl) ?_
    refine lv_sipush (v := (255 : Int32)) hx hb dX3_append_5 (by decide) ?_
    refine lv_icmp_le (tgt := 14) hx hb dX3_append_8 (by decide) (fun c2 => ?_) (fun c2 => ?_)
    · replace hm := ite_t c2 hm
      refine lv_aload_n hx hb dX3_append_14 rfl (lv_at hl 0 rfl) ?_
      refine va_get (D := (dC, dI)) (ci := 3) (v := .int v_length) (C := RX3) (T := TX3) (N := 2) hx hb hts iX3 hown hK hP 0 rfl rfl 1 (by decide) f21 (fun _ h9 => h9) rfl dX3_append_15 ?_
      refine lv_aload_n hx hb dX3_append_18 rfl (lv_at hl 0 rfl) ?_
      refine va_get (D := (dC, dI)) (ci := 3) (v := .ref a_bytes) (C := RX3) (T := TX3) (N := 2) hx hb hts iX3 hown hK hP 0 rfl rfl 0 (by decide) f15 (fun _ h9 => h9) rfl dX3_append_19 ?_
      refine va_alen (v := (Int32.ofNat n_bytes)) hx hb hK hP 1 0 rfl rfl rfl dX3_append_22 ?_
      refine lv_icmp_lt (tgt := 29) hx hb dX3_append_23 (by decide) (fun c3 => ?_) (fun c3 => ?_)
      · replace hm := ite_t c3 hm
        refine lv_aload_n hx hb dX3_append_29 rfl (lv_at hl 0 rfl) ?_
        refine va_get (D := (dC, dI)) (ci := 3) (v := .ref a_bytes) (C := RX3) (T := TX3) (N := 2) hx hb hts iX3 hown hK hP 0 rfl rfl 0 (by decide) f15 (fun _ h9 => h9) rfl dX3_append_30 ?_
        refine lv_aload_n hx hb dX3_append_33 rfl (lv_at hl 0 rfl) ?_
        refine va_get (D := (dC, dI)) (ci := 3) (v := .int v_length) (C := RX3) (T := TX3) (N := 2) hx hb hts iX3 hown hK hP 0 rfl rfl 1 (by decide) f21 (fun _ h9 => h9) rfl dX3_append_34 ?_
        refine lv_iload_n hx hb dX3_append_37 rfl (lv_at hl 1 rfl) ?_
        obtain ⟨h4, hm⟩ := gd_s hm
        refine va_iast hx hb hK hP (kb_D hD rfl) hS 1 0 rfl rfl (inB_s h4) dX3_append_38 (fun H locs hP _ hS => ?_)
        have hP : va_P (dC, dI) vwCl [oX3 a_th (.ref a_bytes) (.int v_length), aI cI a_bytes n_bytes (upd v_bytes (Int32.toNatClampNeg v_length) p_1)] H := hP
        refine lv_aload_n hx hb dX3_append_39 rfl (lv_at hl 0 rfl) ?_
        refine lv_dup hx hb dX3_append_40 rfl ?_
        refine va_get (D := (dC, dI)) (ci := 3) (v := .int v_length) (C := RX3) (T := TX3) (N := 2) hx hb hts iX3 hown hK hP 0 rfl rfl 1 (by decide) f21 (fun _ h9 => h9) rfl dX3_append_41 ?_
        refine lv_iconst (v := (1 : Int32)) hx hb dX3_append_44 (by decide) ?_
        refine lv_iadd hx hb dX3_append_45 ?_
        refine lv_topi (fun x5 ex5 => ?_)
        replace hm := nm_t ex5 hm
        refine va_put (D := (dC, dI)) (ci := 3) (v := .int x5) (ty := .int) (C := RX3) (T := TX3) (N := 2) hx hb hts iX3 tyX3 tyX3_ok nmX3 hown hK hP (kb_D hD rfl) hS 0 rfl rfl 1 (by decide) f21 (fun _ h9 => h9) rfl (by decide +kernel) rfl rfl (Nat.le_of_ble_eq_true rfl) dX3_append_46 (fun H locs hP _ hS => ?_)
        have hP : va_P (dC, dI) vwCl [oX3 a_th (.ref a_bytes) (.int x5), aI cI a_bytes n_bytes (upd v_bytes (Int32.toNatClampNeg v_length) p_1)] H := hP
        refine lv_aload_n hx hb dX3_append_49 rfl (lv_at hl 0 rfl) ?_
        refine va_get (D := (dC, dI)) (ci := 3) (v := .int x5) (C := RX3) (T := TX3) (N := 2) hx hb hts iX3 hown hK hP 0 rfl rfl 1 (by decide) f21 (fun _ h9 => h9) rfl dX3_append_50 ?_
        obtain rfl := Option.some.inj hm
        subst hQ
        exact W.iret hx hb hr (fun t ht hW => ⟨⟨_, (), rfl, rfl, kb_h hP ht⟩, hS.F ht⟩) hS.2.2 dX3_append_53
      · replace hm := ite_f c3 hm
        refine lv_bipush (v := (-4 : Int32)) hx hb dX3_append_26 (by decide) ?_
        obtain rfl := Option.some.inj hm
        subst hQ
        exact W.iret hx hb hr (fun t ht hW => ⟨⟨_, (), rfl, rfl, kb_h hP ht⟩, hS.F ht⟩) hS.2.2 dX3_append_28
    · replace hm := ite_f c2 hm
      refine lv_bipush (v := (-2 : Int32)) hx hb dX3_append_11 (by decide) ?_
      obtain rfl := Option.some.inj hm
      subst hQ
      exact W.iret hx hb hr (fun t ht hW => ⟨⟨_, (), rfl, rfl, kb_h hP ht⟩, hS.F ht⟩) hS.2.2 dX3_append_13
set_option maxHeartbeats 4000000 in
set_option maxRecDepth 100000 in
theorem c_X9_write (l : Launch) (dC : Nat → ClassId) (dI : Nat → Nat → Nat) (cI cJ cZ cQ : ClassId) (t sz : Nat) (a_th : Nat) (a_theText : Nat) (a_theText_bytes : Nat) (n_theText_bytes : Nat) (q_theQuestion : Value) (q_theCastle : Value) (q_now : Value) (q_theActs : Value) (q_theTold : Value) (q_foresight : Value) (q_keptMoments : Value) (q_isKept : Value) (q_marchWorlds : Value) (v_theSeed : Int64) (v_theText_length : Int32) (v_theText_bytes : (Nat → Int32)) (p_1 : Int32) (o : Int32 × Int32 × (Nat → Int32)) (hm : m_X9_write p_1 n_theText_bytes v_theText_length v_theText_bytes = some o) : Met l yX9_write wsX9_write { frames := 1, cells := 0, slots := 0, locals := 21 } (va_Pc [.ref a_th, .int p_1] (cP (dC, dI) (kT cI cJ cZ cQ) t sz [oX9 a_th (.ref a_theText) q_theQuestion q_theCastle q_now q_theActs q_theTold q_foresight q_keptMoments q_isKept q_marchWorlds (.long v_theSeed), oX3 a_theText (.ref a_theText_bytes) (.int v_theText_length), aI cI a_theText_bytes n_theText_bytes v_theText_bytes])) (cQi (dC, dI) (va_A [oX9 a_th (.ref a_theText) q_theQuestion q_theCastle q_now q_theActs q_theTold q_foresight q_keptMoments q_isKept q_marchWorlds (.long v_theSeed), oX3 a_theText (.ref a_theText_bytes) (.int v_theText_length), aI cI a_theText_bytes n_theText_bytes v_theText_bytes] sz) o.1 [oX9 a_th (.ref a_theText) q_theQuestion q_theCastle q_now q_theActs q_theTold q_foresight q_keptMoments q_isKept q_marchWorlds (.long v_theSeed), oX3 a_theText (.ref a_theText_bytes) (.int (o.2.1)), aI cI a_theText_bytes n_theText_bytes (o.2.2)]) 0 0 (va_A [oX9 a_th (.ref a_theText) q_theQuestion q_theCastle q_now q_theActs q_theTold q_foresight q_keptMoments q_isKept q_marchWorlds (.long v_theSeed), oX3 a_theText (.ref a_theText_bytes) (.int v_theText_length), aI cI a_theText_bytes n_theText_bytes v_theText_bytes] sz) := by
  refine Met.ofW (cc := cX9_write) (maxL := 2) (ret := (some .int)) (by decide) rfl ?_
  intro p e s m args below meth c s₁ B hml hv
  obtain ⟨rfl, hsz, hP, hK, hD0, hG⟩ := hv
  have hx := B.exec
  have hb := B.bytes
  have hr := B.returns
  have hts := atoms_spec (ws := wsX9_write) B.pre
  have hown : s.vm.findClass RX9 = some m.cls := findClass_of_methodNamed B.named
  have hlocks := B.notSynchronized
  subst hsz
  have hD := hD0.self (sz := s.heap.size)
  generalize hAe : va_A [oX9 a_th (.ref a_theText) q_theQuestion q_theCastle q_now q_theActs q_theTold q_foresight q_keptMoments q_isKept q_marchWorlds (.long v_theSeed), oX3 a_theText (.ref a_theText_bytes) (.int v_theText_length), aI cI a_theText_bytes n_theText_bytes v_theText_bytes] s.heap.size = A at hD hG ⊢
  have hA : ∀ q : Nat, s.heap.size ≤ q → A q := fun q h => by rw [← hAe]; exact Or.inr h
  have hS : va_S A s.heap s.heap [] := va_S.rf
  have hl := lv_entry ([.ref a_th, .int p_1]) (n := 2) (Nat.le_of_ble_eq_true rfl)
  rw [lg_entry_eq]
  generalize (lg_sl ([.ref a_th, .int p_1]) ++ List.replicate (2 - (lg_sl ([.ref a_th, .int p_1])).length) Slot.unset).toArray = ls at hl ⊢
  have hl : lv_has ls 2 [(0, .ref a_th), (1, .int p_1)] := hl
  have iX9 : ∀ w ∈ wsX90, w ∈ wsX9_write := fun _ h => List.mem_cons_of_mem _ (List.mem_append_left _ (List.mem_append_right _ h))
  have iX3 : ∀ w ∈ wsX30, w ∈ wsX9_write := fun _ h => List.mem_cons_of_mem _ (List.mem_append_right _ h)
  have f14 := hts (.fieldLink RX9 14 "TrueOnceWeek" "theText" "LTrueOnceWeek$Letters;") (by decide +kernel)
  refine kb_gen (fun Q hQ => ?_)
  unfold m_X9_write at hm
  refine lv_aload_n hx hb dX9_write_0 rfl (lv_at hl 0 rfl) ?_
  refine va_get (D := (dC, dI)) (ci := 7) (v := .ref a_theText) (C := RX9) (T := TX9) (N := 11) hx hb hts iX9 hown hK hP 0 rfl rfl 0 (by decide) f14 (fun _ h9 => h9) rfl dX9_write_1 ?_
  refine lv_iload_n hx hb dX9_write_4 rfl (lv_at hl 1 rfl) ?_
  obtain ⟨r1, w2, w3, ho4, hm⟩ := bd3_s hm
  refine kb_calli (Rv := r1) (va_runV (As := [.int p_1]) (rest := []) ⟨hx, hb, hml, hown, hts⟩ (c_X3_append l dC dI cI cJ cZ cQ t s.heap.size a_theText a_theText_bytes n_theText_bytes v_theText_length v_theText_bytes p_1 (r1, w2, w3) ho4) (cwV 1 hts gX9_write_X3_append rfl rfl rfl (by decide +kernel) ⟨(Nat.le_of_ble_eq_true rfl), (Nat.le_of_ble_eq_true rfl)⟩) ⟨(kb_pre hK hG hP (kb_D hD rfl) hS hA [1, 2] rfl (by decide)).1, (va_recv hK hP (ci := 3) (q0 := 1) rfl rfl), (kb_pre hK hG hP (kb_D hD rfl) hS hA [1, 2] rfl (by decide)).2⟩ rfl rfl hl.1 rfl (lv_room (Nat.le_of_ble_eq_true rfl)) dX9_write_5 ⟨Nat.zero_le _, Nat.zero_le _⟩) hP (kb_D hD rfl) hS hA [1, 2] rfl [(false, 0), (true, 0), (true, 1)] (w2 := [oX9 a_th (.ref a_theText) q_theQuestion q_theCastle q_now q_theActs q_theTold q_foresight q_keptMoments q_isKept q_marchWorlds (.long v_theSeed), oX3 a_theText (.ref a_theText_bytes) (.int w2), aI cI a_theText_bytes n_theText_bytes w3]) rfl (by decide) (fun H locs hP hS => ?_)
  obtain rfl := Option.some.inj hm
  subst hQ
  exact W.iret hx hb hr (fun t ht hW => ⟨⟨_, (), rfl, rfl, kb_h hP ht⟩, hS.F ht⟩) hS.2.2 dX9_write_8
set_option maxHeartbeats 4000000 in
set_option maxRecDepth 100000 in
theorem c_X3_empty (l : Launch) (dC : Nat → ClassId) (dI : Nat → Nat → Nat) (cI cJ cZ cQ : ClassId) (t sz : Nat) (a_th : Nat) (q_bytes : Value) (v_length : Int32) (o : Int32 × Int32) (hm : m_X3_empty v_length = some o) : Met l yX3_empty wsX3_empty { frames := 0, cells := 0, slots := 0, locals := 0 } (va_Pc [.ref a_th] (cP (dC, dI) (kT cI cJ cZ cQ) t sz [oX3 a_th q_bytes (.int v_length)])) (cQi (dC, dI) (va_A [oX3 a_th q_bytes (.int v_length)] sz) o.1 [oX3 a_th q_bytes (.int (o.2))]) 0 0 (va_A [oX3 a_th q_bytes (.int v_length)] sz) := by
  refine Met.ofW (cc := cX3_empty) (maxL := 2) (ret := (some .int)) (by decide) rfl ?_
  intro p e s m args below meth c s₁ B hml hv
  obtain ⟨rfl, hsz, hP, hK, hD0, hG⟩ := hv
  have hx := B.exec
  have hb := B.bytes
  have hr := B.returns
  have hts := atoms_spec (ws := wsX3_empty) B.pre
  have hown : s.vm.findClass RX3 = some m.cls := findClass_of_methodNamed B.named
  have hlocks := B.notSynchronized
  subst hsz
  have hD := hD0.self (sz := s.heap.size)
  generalize hAe : va_A [oX3 a_th q_bytes (.int v_length)] s.heap.size = A at hD hG ⊢
  have hA : ∀ q : Nat, s.heap.size ≤ q → A q := fun q h => by rw [← hAe]; exact Or.inr h
  have hS : va_S A s.heap s.heap [] := va_S.rf
  have hl := lv_entry ([.ref a_th]) (n := 2) (Nat.le_of_ble_eq_true rfl)
  rw [lg_entry_eq]
  generalize (lg_sl ([.ref a_th]) ++ List.replicate (2 - (lg_sl ([.ref a_th])).length) Slot.unset).toArray = ls at hl ⊢
  have hl : lv_has ls 2 [(0, .ref a_th)] := hl
  have iX3 : ∀ w ∈ wsX30, w ∈ wsX3_empty := fun _ h => List.mem_cons_of_mem _ (List.mem_append_right _ h)
  have f21 := hts (.fieldLink RX3 21 "TrueOnceWeek$Letters" "length" "I") (by decide +kernel)
  refine kb_gen (fun Q hQ => ?_)
  unfold m_X3_empty at hm
  refine lv_aload_n hx hb dX3_empty_0 rfl (lv_at hl 0 rfl) ?_
  refine va_get (D := (dC, dI)) (ci := 3) (v := .int v_length) (C := RX3) (T := TX3) (N := 2) hx hb hts iX3 hown hK hP 0 rfl rfl 1 (by decide) f21 (fun _ h9 => h9) rfl dX3_empty_1 ?_
  refine lv_istore_n (lv' := [(1, .int v_length), (0, .ref a_th)]) hx hb dX3_empty_4 rfl hl (by decide) rfl (fun ls hl => ?_)
  refine lv_aload_n hx hb dX3_empty_5 rfl (lv_at hl 1 rfl) ?_
  refine lv_iconst (v := (0 : Int32)) hx hb dX3_empty_6 (by decide) ?_
  refine va_put (D := (dC, dI)) (ci := 3) (v := .int (0 : Int32)) (ty := .int) (C := RX3) (T := TX3) (N := 2) hx hb hts iX3 tyX3 tyX3_ok nmX3 hown hK hP (kb_D hD rfl) hS 0 rfl rfl 1 (by decide) f21 (fun _ h9 => h9) rfl (by decide +kernel) rfl rfl (Nat.le_of_ble_eq_true rfl) dX3_empty_7 (fun H locs hP _ hS => ?_)
  have hP : va_P (dC, dI) vwCl [oX3 a_th q_bytes (.int (0 : Int32))] H := hP
  refine lv_iload_n hx hb dX3_empty_10 rfl (lv_at hl 0 rfl) ?_
  obtain rfl := Option.some.inj hm
  subst hQ
  exact W.iret hx hb hr (fun t ht hW => ⟨⟨_, (), rfl, rfl, kb_h hP ht⟩, hS.F ht⟩) hS.2.2 dX3_empty_11
set_option maxHeartbeats 4000000 in
set_option maxRecDepth 100000 in
theorem c_X9_wipe (l : Launch) (dC : Nat → ClassId) (dI : Nat → Nat → Nat) (cI cJ cZ cQ : ClassId) (t sz : Nat) (a_th : Nat) (a_theText : Nat) (q_theQuestion : Value) (q_theCastle : Value) (q_now : Value) (q_theActs : Value) (q_theTold : Value) (q_foresight : Value) (q_keptMoments : Value) (q_isKept : Value) (q_marchWorlds : Value) (q_theText_bytes : Value) (v_theSeed : Int64) (v_theText_length : Int32) (o : Int32 × Int32) (hm : m_X9_wipe v_theText_length = some o) : Met l yX9_wipe wsX9_wipe { frames := 1, cells := 0, slots := 0, locals := 21 } (va_Pc [.ref a_th] (cP (dC, dI) (kT cI cJ cZ cQ) t sz [oX9 a_th (.ref a_theText) q_theQuestion q_theCastle q_now q_theActs q_theTold q_foresight q_keptMoments q_isKept q_marchWorlds (.long v_theSeed), oX3 a_theText q_theText_bytes (.int v_theText_length)])) (cQi (dC, dI) (va_A [oX9 a_th (.ref a_theText) q_theQuestion q_theCastle q_now q_theActs q_theTold q_foresight q_keptMoments q_isKept q_marchWorlds (.long v_theSeed), oX3 a_theText q_theText_bytes (.int v_theText_length)] sz) o.1 [oX9 a_th (.ref a_theText) q_theQuestion q_theCastle q_now q_theActs q_theTold q_foresight q_keptMoments q_isKept q_marchWorlds (.long v_theSeed), oX3 a_theText q_theText_bytes (.int (o.2))]) 0 0 (va_A [oX9 a_th (.ref a_theText) q_theQuestion q_theCastle q_now q_theActs q_theTold q_foresight q_keptMoments q_isKept q_marchWorlds (.long v_theSeed), oX3 a_theText q_theText_bytes (.int v_theText_length)] sz) := by
  refine Met.ofW (cc := cX9_wipe) (maxL := 1) (ret := (some .int)) (by decide) rfl ?_
  intro p e s m args below meth c s₁ B hml hv
  obtain ⟨rfl, hsz, hP, hK, hD0, hG⟩ := hv
  have hx := B.exec
  have hb := B.bytes
  have hr := B.returns
  have hts := atoms_spec (ws := wsX9_wipe) B.pre
  have hown : s.vm.findClass RX9 = some m.cls := findClass_of_methodNamed B.named
  have hlocks := B.notSynchronized
  subst hsz
  have hD := hD0.self (sz := s.heap.size)
  generalize hAe : va_A [oX9 a_th (.ref a_theText) q_theQuestion q_theCastle q_now q_theActs q_theTold q_foresight q_keptMoments q_isKept q_marchWorlds (.long v_theSeed), oX3 a_theText q_theText_bytes (.int v_theText_length)] s.heap.size = A at hD hG ⊢
  have hA : ∀ q : Nat, s.heap.size ≤ q → A q := fun q h => by rw [← hAe]; exact Or.inr h
  have hS : va_S A s.heap s.heap [] := va_S.rf
  have hl := lv_entry ([.ref a_th]) (n := 1) (Nat.le_of_ble_eq_true rfl)
  rw [lg_entry_eq]
  generalize (lg_sl ([.ref a_th]) ++ List.replicate (1 - (lg_sl ([.ref a_th])).length) Slot.unset).toArray = ls at hl ⊢
  have hl : lv_has ls 1 [(0, .ref a_th)] := hl
  have iX9 : ∀ w ∈ wsX90, w ∈ wsX9_wipe := fun _ h => List.mem_cons_of_mem _ (List.mem_append_left _ (List.mem_append_right _ h))
  have iX3 : ∀ w ∈ wsX30, w ∈ wsX9_wipe := fun _ h => List.mem_cons_of_mem _ (List.mem_append_right _ h)
  have f14 := hts (.fieldLink RX9 14 "TrueOnceWeek" "theText" "LTrueOnceWeek$Letters;") (by decide +kernel)
  refine kb_gen (fun Q hQ => ?_)
  unfold m_X9_wipe at hm
  refine lv_aload_n hx hb dX9_wipe_0 rfl (lv_at hl 0 rfl) ?_
  refine va_get (D := (dC, dI)) (ci := 7) (v := .ref a_theText) (C := RX9) (T := TX9) (N := 11) hx hb hts iX9 hown hK hP 0 rfl rfl 0 (by decide) f14 (fun _ h9 => h9) rfl dX9_wipe_1 ?_
  obtain ⟨r1, w2, ho3, hm⟩ := bd2_s hm
  refine kb_calli (Rv := r1) (va_runV (As := []) (rest := []) ⟨hx, hb, hml, hown, hts⟩ (c_X3_empty l dC dI cI cJ cZ cQ t s.heap.size a_theText q_theText_bytes v_theText_length (r1, w2) ho3) (cwV 0 hts gX9_wipe_X3_empty rfl rfl rfl (by decide +kernel) ⟨(Nat.le_of_ble_eq_true rfl), (Nat.le_of_ble_eq_true rfl)⟩) ⟨(kb_pre hK hG hP (kb_D hD rfl) hS hA [1] rfl (by decide)).1, (va_recv hK hP (ci := 3) (q0 := 1) rfl rfl), (kb_pre hK hG hP (kb_D hD rfl) hS hA [1] rfl (by decide)).2⟩ rfl rfl hl.1 rfl (lv_room (Nat.le_of_ble_eq_true rfl)) dX9_wipe_4 ⟨Nat.zero_le _, Nat.zero_le _⟩) hP (kb_D hD rfl) hS hA [1] rfl [(false, 0), (true, 0)] (w2 := [oX9 a_th (.ref a_theText) q_theQuestion q_theCastle q_now q_theActs q_theTold q_foresight q_keptMoments q_isKept q_marchWorlds (.long v_theSeed), oX3 a_theText q_theText_bytes (.int w2)]) rfl (by decide) (fun H locs hP hS => ?_)
  obtain rfl := Option.some.inj hm
  subst hQ
  exact W.iret hx hb hr (fun t ht hW => ⟨⟨_, (), rfl, rfl, kb_h hP ht⟩, hS.F ht⟩) hS.2.2 dX9_wipe_7
set_option maxHeartbeats 4000000 in
set_option maxRecDepth 100000 in
theorem c_X3_at (l : Launch) (dC : Nat → ClassId) (dI : Nat → Nat → Nat) (cI cJ cZ cQ : ClassId) (t sz : Nat) (a_th : Nat) (a_bytes : Nat) (n_bytes : Nat) (v_length : Int32) (v_bytes : (Nat → Int32)) (p_1 : Int32) (o : Int32) (hm : m_X3_at p_1 n_bytes v_length v_bytes = some o) : Met l yX3_at wsX3_at { frames := 0, cells := 0, slots := 0, locals := 0 } (va_Pc [.ref a_th, .int p_1] (cP (dC, dI) (kT cI cJ cZ cQ) t sz [oX3 a_th (.ref a_bytes) (.int v_length), aI cI a_bytes n_bytes v_bytes])) (cQi (dC, dI) (va_A [oX3 a_th (.ref a_bytes) (.int v_length), aI cI a_bytes n_bytes v_bytes] sz) o [oX3 a_th (.ref a_bytes) (.int v_length), aI cI a_bytes n_bytes v_bytes]) 0 0 (va_A [oX3 a_th (.ref a_bytes) (.int v_length), aI cI a_bytes n_bytes v_bytes] sz) := by
  refine Met.ofW (cc := cX3_at) (maxL := 2) (ret := (some .int)) (by decide) rfl ?_
  intro p e s m args below meth c s₁ B hml hv
  obtain ⟨rfl, hsz, hP, hK, hD0, hG⟩ := hv
  have hx := B.exec
  have hb := B.bytes
  have hr := B.returns
  have hts := atoms_spec (ws := wsX3_at) B.pre
  have hown : s.vm.findClass RX3 = some m.cls := findClass_of_methodNamed B.named
  have hlocks := B.notSynchronized
  subst hsz
  have hD := hD0.self (sz := s.heap.size)
  generalize hAe : va_A [oX3 a_th (.ref a_bytes) (.int v_length), aI cI a_bytes n_bytes v_bytes] s.heap.size = A at hD hG ⊢
  have hA : ∀ q : Nat, s.heap.size ≤ q → A q := fun q h => by rw [← hAe]; exact Or.inr h
  have hS : va_S A s.heap s.heap [] := va_S.rf
  have hl := lv_entry ([.ref a_th, .int p_1]) (n := 2) (Nat.le_of_ble_eq_true rfl)
  rw [lg_entry_eq]
  generalize (lg_sl ([.ref a_th, .int p_1]) ++ List.replicate (2 - (lg_sl ([.ref a_th, .int p_1])).length) Slot.unset).toArray = ls at hl ⊢
  have hl : lv_has ls 2 [(0, .ref a_th), (1, .int p_1)] := hl
  have iX3 : ∀ w ∈ wsX30, w ∈ wsX3_at := fun _ h => List.mem_cons_of_mem _ (List.mem_append_right _ h)
  have f21 := hts (.fieldLink RX3 21 "TrueOnceWeek$Letters" "length" "I") (by decide +kernel)
  have f15 := hts (.fieldLink RX3 15 "TrueOnceWeek$Letters" "bytes" "[I") (by decide +kernel)
  refine kb_gen (fun Q hQ => ?_)
  unfold m_X3_at at hm
  refine lv_iload_n hx hb dX3_at_0 rfl (lv_at hl 1 rfl) ?_
  obtain ⟨k21, ek21, hm⟩ := nm_s hm
  have J21 : ∀ (H : Heap) (locs : List Loc) (ls : Array Slot), k21 = some o → va_P (dC, dI) vwCl [oX3 a_th (.ref a_bytes) (.int v_length), aI cI a_bytes n_bytes v_bytes] H → va_S A s.heap H locs → lv_has ls 2 [] → W p l e (headSpec wsX3_at { frames := 0, cells := 0, slots := 0, locals := 0 }).room s m [.ref a_th, .int p_1].toArray below meth c H locs 0 0 Q (F0 m 21 ls []) := by
    intro  H locs ls hm hP hS hl
    rw [ek21] at hm
    refine lv_bipush (v := (-9 : Int32)) hx hb dX3_at_21 (by decide) ?_
    obtain rfl := Option.some.inj hm
    subst hQ
    exact W.iret hx hb hr (fun t ht hW => ⟨⟨_, (), rfl, rfl, kb_h hP ht⟩, hS.F ht⟩) hS.2.2 dX3_at_23
  refine lv_if_lt (tgt := 21) hx hb dX3_at_1 (by decide) (fun c1 => ?_) (fun c1 => ?_)
  · replace hm := ite_t c1 hm
    exact J21  _ _ _ hm hP hS (lv_sub hl [] rfl)
  · replace hm := ite_f c1 hm
    refine lv_iload_n hx hb dX3_at_4 rfl (lv_at hl 1 rfl) ?_
    refine lv_aload_n hx hb dX3_at_5 rfl (lv_at hl 0 rfl) ?_
    refine va_get (D := (dC, dI)) (ci := 3) (v := .int v_length) (C := RX3) (T := TX3) (N := 2) hx hb hts iX3 hown hK hP 0 rfl rfl 1 (by decide) f21 (fun _ h9 => h9) rfl dX3_at_6 ?_
    refine lv_icmp_ge (tgt := 21) hx hb dX3_at_9 (by decide) (fun c2 => ?_) (fun c2 => ?_)
    · replace hm := ite_t c2 hm
      exact J21  _ _ _ hm hP hS (lv_sub hl [] rfl)
    · replace hm := ite_f c2 hm
      refine lv_aload_n hx hb dX3_at_12 rfl (lv_at hl 0 rfl) ?_
      refine va_get (D := (dC, dI)) (ci := 3) (v := .ref a_bytes) (C := RX3) (T := TX3) (N := 2) hx hb hts iX3 hown hK hP 0 rfl rfl 0 (by decide) f15 (fun _ h9 => h9) rfl dX3_at_13 ?_
      refine lv_iload_n hx hb dX3_at_16 rfl (lv_at hl 1 rfl) ?_
      obtain ⟨h3, hm⟩ := gd_s hm
      refine va_iald hx hb hK hP 1 0 rfl rfl (inB_s h3) dX3_at_17 ?_
      refine lv_goto (tgt := 23) hx hb dX3_at_18 (by decide) ?_
      obtain rfl := Option.some.inj hm
      subst hQ
      exact W.iret hx hb hr (fun t ht hW => ⟨⟨_, (), rfl, rfl, kb_h hP ht⟩, hS.F ht⟩) hS.2.2 dX3_at_23
set_option maxHeartbeats 4000000 in
set_option maxRecDepth 100000 in
theorem c_X1_fits (l : Launch) (dC : Nat → ClassId) (dI : Nat → Nat → Nat) (cI cJ cZ cQ : ClassId) (t sz : Nat) (p_0 : Int32) (p_1 : Int32) (o : Int32) (hm : m_X1_fits p_0 p_1 = some o) : Met l yX1_fits wsX1_fits { frames := 0, cells := 0, slots := 0, locals := 0 } (va_Pc [.int p_0, .int p_1] (cP (dC, dI) (kT cI cJ cZ cQ) t sz [])) (cQi (dC, dI) (va_A [] sz) o []) 0 0 (va_A [] sz) := by
  refine Met.ofW (cc := cX1_fits) (maxL := 2) (ret := (some .boolean)) (by decide) rfl ?_
  intro p e s m args below meth c s₁ B hml hv
  obtain ⟨rfl, hsz, hP, hK, hD0, hG⟩ := hv
  have hx := B.exec
  have hb := B.bytes
  have hr := B.returns
  have hts := atoms_spec (ws := wsX1_fits) B.pre
  have hown : s.vm.findClass RX1 = some m.cls := findClass_of_methodNamed B.named
  have hlocks := B.notSynchronized
  subst hsz
  have hD := hD0.self (sz := s.heap.size)
  generalize hAe : va_A [] s.heap.size = A at hD hG ⊢
  have hA : ∀ q : Nat, s.heap.size ≤ q → A q := fun q h => by rw [← hAe]; exact Or.inr h
  have hS : va_S A s.heap s.heap [] := va_S.rf
  have hl := lv_entry ([.int p_0, .int p_1]) (n := 2) (Nat.le_of_ble_eq_true rfl)
  rw [lg_entry_eq]
  generalize (lg_sl ([.int p_0, .int p_1]) ++ List.replicate (2 - (lg_sl ([.int p_0, .int p_1])).length) Slot.unset).toArray = ls at hl ⊢
  have hl : lv_has ls 2 [(0, .int p_0), (1, .int p_1)] := hl
  refine kb_gen (fun Q hQ => ?_)
  unfold m_X1_fits at hm
  refine lv_iload_n hx hb dX1_fits_0 rfl (lv_at hl 0 rfl) ?_
  refine lv_if_ne (tgt := 16) hx hb dX1_fits_1 (by decide) (fun c1 => ?_) (fun c1 => ?_)
  · replace hm := ite_f c1 hm
    refine lv_iload_n hx hb dX1_fits_16 rfl (lv_at hl 0 rfl) ?_
    refine lv_iconst (v := (2 : Int32)) hx hb dX1_fits_17 (by decide) ?_
    refine lv_icmp_ge (tgt := 39) hx hb dX1_fits_18 (by decide) (fun c2 => ?_) (fun c2 => ?_)
    · replace hm := ite_t c2 hm
      refine lv_iload_n hx hb dX1_fits_39 rfl (lv_at hl 0 rfl) ?_
      refine lv_bipush (v := (17 : Int32)) hx hb dX1_fits_40 (by decide) ?_
      refine lv_icmp_lt (tgt := 47) hx hb dX1_fits_42 (by decide) (fun c3 => ?_) (fun c3 => ?_)
      · replace hm := ite_t c3 hm
        refine lv_iload_n hx hb dX1_fits_47 rfl (lv_at hl 0 rfl) ?_
        refine lv_iconst (v := (2 : Int32)) hx hb dX1_fits_48 (by decide) ?_
        refine lv_isub hx hb dX1_fits_49 ?_
        refine lv_iconst (v := (3 : Int32)) hx hb dX1_fits_50 (by decide) ?_
        refine lv_irem hx hb dX1_fits_51 (by decide) ?_
        refine lv_if_ne (tgt := 67) hx hb dX1_fits_52 (by decide) (fun c4 => ?_) (fun c4 => ?_)
        · replace hm := ite_f c4 hm
          refine lv_iload_n hx hb dX1_fits_67 rfl (lv_at hl 1 rfl) ?_
          refine lv_bipush (v := (48 : Int32)) hx hb dX1_fits_68 (by decide) ?_
          obtain ⟨k79, ek79, hm⟩ := nm_s hm
          have J79 : ∀ (H : Heap) (locs : List Loc) (ls : Array Slot), k79 = some o → va_P (dC, dI) vwCl [] H → va_S A s.heap H locs → lv_has ls 2 [] → W p l e (headSpec wsX1_fits { frames := 0, cells := 0, slots := 0, locals := 0 }).room s m [.int p_0, .int p_1].toArray below meth c H locs 0 0 Q (F0 m 79 ls []) := by
            intro  H locs ls hm hP hS hl
            rw [ek79] at hm
            refine lv_iconst (v := (1 : Int32)) hx hb dX1_fits_79 (by decide) ?_
            refine lv_goto (tgt := 84) hx hb dX1_fits_80 (by decide) ?_
            obtain rfl := Option.some.inj hm
            subst hQ
            exact W.zret hx hb hr rfl (fun t ht hW => ⟨⟨_, (), rfl, rfl, kb_h hP ht⟩, hS.F ht⟩) hS.2.2 dX1_fits_84
          refine lv_icmp_eq (tgt := 79) hx hb dX1_fits_70 (by decide) (fun c5 => ?_) (fun c5 => ?_)
          · replace hm := ite_t c5 hm
            exact J79  _ _ _ hm hP hS (lv_sub hl [] rfl)
          · replace hm := ite_f c5 hm
            refine lv_iload_n hx hb dX1_fits_73 rfl (lv_at hl 1 rfl) ?_
            refine lv_bipush (v := (49 : Int32)) hx hb dX1_fits_74 (by decide) ?_
            refine lv_icmp_ne (tgt := 83) hx hb dX1_fits_76 (by decide) (fun c6 => ?_) (fun c6 => ?_)
            · replace hm := ite_f c6 hm
              refine lv_iconst (v := (0 : Int32)) hx hb dX1_fits_83 (by decide) ?_
              obtain rfl := Option.some.inj hm
              subst hQ
              exact W.zret hx hb hr rfl (fun t ht hW => ⟨⟨_, (), rfl, rfl, kb_h hP ht⟩, hS.F ht⟩) hS.2.2 dX1_fits_84
            · replace hm := ite_t c6 hm
              exact J79  _ _ _ hm hP hS (lv_sub hl [] rfl)
        · replace hm := ite_t c4 hm
          refine lv_iload_n hx hb dX1_fits_55 rfl (lv_at hl 1 rfl) ?_
          refine lv_bipush (v := (70 : Int32)) hx hb dX1_fits_56 (by decide) ?_
          refine lv_icmp_ne (tgt := 65) hx hb dX1_fits_58 (by decide) (fun c7 => ?_) (fun c7 => ?_)
          · replace hm := ite_f c7 hm
            refine lv_iconst (v := (0 : Int32)) hx hb dX1_fits_65 (by decide) ?_
            obtain rfl := Option.some.inj hm
            subst hQ
            exact W.zret hx hb hr rfl (fun t ht hW => ⟨⟨_, (), rfl, rfl, kb_h hP ht⟩, hS.F ht⟩) hS.2.2 dX1_fits_66
          · replace hm := ite_t c7 hm
            refine lv_iconst (v := (1 : Int32)) hx hb dX1_fits_61 (by decide) ?_
            refine lv_goto (tgt := 66) hx hb dX1_fits_62 (by decide) ?_
            obtain rfl := Option.some.inj hm
            subst hQ
            exact W.zret hx hb hr rfl (fun t ht hW => ⟨⟨_, (), rfl, rfl, kb_h hP ht⟩, hS.F ht⟩) hS.2.2 dX1_fits_66
      · replace hm := ite_f c3 hm
        refine lv_iconst (v := (0 : Int32)) hx hb dX1_fits_45 (by decide) ?_
        obtain rfl := Option.some.inj hm
        subst hQ
        exact W.zret hx hb hr rfl (fun t ht hW => ⟨⟨_, (), rfl, rfl, kb_h hP ht⟩, hS.F ht⟩) hS.2.2 dX1_fits_46
    · replace hm := ite_f c2 hm
      refine lv_iload_n hx hb dX1_fits_21 rfl (lv_at hl 1 rfl) ?_
      refine lv_bipush (v := (48 : Int32)) hx hb dX1_fits_22 (by decide) ?_
      obtain ⟨k37, ek37, hm⟩ := nm_s hm
      have J37 : ∀ (H : Heap) (locs : List Loc) (ls : Array Slot), k37 = some o → va_P (dC, dI) vwCl [] H → va_S A s.heap H locs → lv_has ls 2 [] → W p l e (headSpec wsX1_fits { frames := 0, cells := 0, slots := 0, locals := 0 }).room s m [.int p_0, .int p_1].toArray below meth c H locs 0 0 Q (F0 m 37 ls []) := by
        intro  H locs ls hm hP hS hl
        rw [ek37] at hm
        refine lv_iconst (v := (0 : Int32)) hx hb dX1_fits_37 (by decide) ?_
        obtain rfl := Option.some.inj hm
        subst hQ
        exact W.zret hx hb hr rfl (fun t ht hW => ⟨⟨_, (), rfl, rfl, kb_h hP ht⟩, hS.F ht⟩) hS.2.2 dX1_fits_38
      refine lv_icmp_lt (tgt := 37) hx hb dX1_fits_24 (by decide) (fun c8 => ?_) (fun c8 => ?_)
      · replace hm := ite_t c8 hm
        exact J37  _ _ _ hm hP hS (lv_sub hl [] rfl)
      · replace hm := ite_f c8 hm
        refine lv_iload_n hx hb dX1_fits_27 rfl (lv_at hl 1 rfl) ?_
        refine lv_bipush (v := (54 : Int32)) hx hb dX1_fits_28 (by decide) ?_
        refine lv_icmp_gt (tgt := 37) hx hb dX1_fits_30 (by decide) (fun c9 => ?_) (fun c9 => ?_)
        · replace hm := ite_t c9 hm
          exact J37  _ _ _ hm hP hS (lv_sub hl [] rfl)
        · replace hm := ite_f c9 hm
          refine lv_iconst (v := (1 : Int32)) hx hb dX1_fits_33 (by decide) ?_
          refine lv_goto (tgt := 38) hx hb dX1_fits_34 (by decide) ?_
          obtain rfl := Option.some.inj hm
          subst hQ
          exact W.zret hx hb hr rfl (fun t ht hW => ⟨⟨_, (), rfl, rfl, kb_h hP ht⟩, hS.F ht⟩) hS.2.2 dX1_fits_38
  · replace hm := ite_t c1 hm
    refine lv_iload_n hx hb dX1_fits_4 rfl (lv_at hl 1 rfl) ?_
    refine lv_bipush (v := (77 : Int32)) hx hb dX1_fits_5 (by decide) ?_
    refine lv_icmp_ne (tgt := 14) hx hb dX1_fits_7 (by decide) (fun c10 => ?_) (fun c10 => ?_)
    · replace hm := ite_f c10 hm
      refine lv_iconst (v := (0 : Int32)) hx hb dX1_fits_14 (by decide) ?_
      obtain rfl := Option.some.inj hm
      subst hQ
      exact W.zret hx hb hr rfl (fun t ht hW => ⟨⟨_, (), rfl, rfl, kb_h hP ht⟩, hS.F ht⟩) hS.2.2 dX1_fits_15
    · replace hm := ite_t c10 hm
      refine lv_iconst (v := (1 : Int32)) hx hb dX1_fits_10 (by decide) ?_
      refine lv_goto (tgt := 15) hx hb dX1_fits_11 (by decide) ?_
      obtain rfl := Option.some.inj hm
      subst hQ
      exact W.zret hx hb hr rfl (fun t ht hW => ⟨⟨_, (), rfl, rfl, kb_h hP ht⟩, hS.F ht⟩) hS.2.2 dX1_fits_15
set_option maxHeartbeats 4000000 in
set_option maxRecDepth 100000 in
theorem c_X1_firstFault (l : Launch) (dC : Nat → ClassId) (dI : Nat → Nat → Nat) (cI cJ cZ cQ : ClassId) (t sz : Nat) (a_p0 : Nat) (a_p0_bytes : Nat) (n_p0_bytes : Nat) (v_p0_length : Int32) (v_p0_bytes : (Nat → Int32)) (o : Int32) (hm : m_X1_firstFault n_p0_bytes v_p0_length v_p0_bytes = some o) : Met l yX1_firstFault wsX1_firstFault { frames := 1, cells := 0, slots := 0, locals := 21 } (va_Pc [.ref a_p0] (cP (dC, dI) (kT cI cJ cZ cQ) t sz [oX3 a_p0 (.ref a_p0_bytes) (.int v_p0_length), aI cI a_p0_bytes n_p0_bytes v_p0_bytes])) (cQi (dC, dI) (va_A [oX3 a_p0 (.ref a_p0_bytes) (.int v_p0_length), aI cI a_p0_bytes n_p0_bytes v_p0_bytes] sz) o [oX3 a_p0 (.ref a_p0_bytes) (.int v_p0_length), aI cI a_p0_bytes n_p0_bytes v_p0_bytes]) 0 0 (va_A [oX3 a_p0 (.ref a_p0_bytes) (.int v_p0_length), aI cI a_p0_bytes n_p0_bytes v_p0_bytes] sz) := by
  refine Met.ofW (cc := cX1_firstFault) (maxL := 2) (ret := (some .int)) (by decide) rfl ?_
  intro p e s m args below meth c s₁ B hml hv
  obtain ⟨rfl, hsz, hP, hK, hD0, hG⟩ := hv
  have hx := B.exec
  have hb := B.bytes
  have hr := B.returns
  have hts := atoms_spec (ws := wsX1_firstFault) B.pre
  have hown : s.vm.findClass RX1 = some m.cls := findClass_of_methodNamed B.named
  have hlocks := B.notSynchronized
  subst hsz
  have hD := hD0.self (sz := s.heap.size)
  generalize hAe : va_A [oX3 a_p0 (.ref a_p0_bytes) (.int v_p0_length), aI cI a_p0_bytes n_p0_bytes v_p0_bytes] s.heap.size = A at hD hG ⊢
  have hA : ∀ q : Nat, s.heap.size ≤ q → A q := fun q h => by rw [← hAe]; exact Or.inr h
  have hS : va_S A s.heap s.heap [] := va_S.rf
  have hl := lv_entry ([.ref a_p0]) (n := 2) (Nat.le_of_ble_eq_true rfl)
  rw [lg_entry_eq]
  generalize (lg_sl ([.ref a_p0]) ++ List.replicate (2 - (lg_sl ([.ref a_p0])).length) Slot.unset).toArray = ls at hl ⊢
  have hl : lv_has ls 2 [(0, .ref a_p0)] := hl
  have iX3 : ∀ w ∈ wsX30, w ∈ wsX1_firstFault := fun _ h => List.mem_cons_of_mem _ (List.mem_append_right _ h)
  have f15 := va_Nw.use (A := [.ref a_p0].toArray) (w := .fieldLinkNest RX1 15 "TrueOnceWeek$Letters" "length" "I" "TrueOnceWeek") rfl (hG.1 (RX1, 15, "TrueOnceWeek$Letters", "length", "I") (by decide +kernel))
  refine kb_gen (fun Q hQ => ?_)
  unfold m_X1_firstFault at hm
  refine lv_iconst (v := (0 : Int32)) hx hb dX1_firstFault_0 (by decide) ?_
  refine lv_istore_n (lv' := [(1, .int (0 : Int32)), (0, .ref a_p0)]) hx hb dX1_firstFault_1 rfl hl (by decide) rfl (fun ls hl => ?_)
  have lp2 : ∀ (n2 : Nat) (x1 : Int32) (k2 : Option (Int32)) (H : Heap) (locs : List Loc) (ls : Array Slot), L_X1_firstFault_2 v_p0_length v_p0_bytes n_p0_bytes n2 x1 k2 = some o → (∀ (H : Heap) (locs : List Loc) (ls : Array Slot), k2 = some o → va_P (dC, dI) vwCl [oX3 a_p0 (.ref a_p0_bytes) (.int v_p0_length), aI cI a_p0_bytes n_p0_bytes v_p0_bytes] H → va_S A s.heap H locs → lv_has ls 2 [(0, .ref a_p0)] → W p l e (headSpec wsX1_firstFault { frames := 1, cells := 0, slots := 0, locals := 21 }).room s m [.ref a_p0].toArray below meth c H locs 0 0 Q (F0 m 30 ls [])) → va_P (dC, dI) vwCl [oX3 a_p0 (.ref a_p0_bytes) (.int v_p0_length), aI cI a_p0_bytes n_p0_bytes v_p0_bytes] H → va_S A s.heap H locs → lv_has ls 2 [(0, .ref a_p0), (1, .int x1)] → W p l e (headSpec wsX1_firstFault { frames := 1, cells := 0, slots := 0, locals := 21 }).room s m [.ref a_p0].toArray below meth c H locs 0 0 Q (F0 m 2 ls []) := by
    intro n2
    induction n2 with
    | zero =>
      intro x1 k2 H locs ls hm
      cases (show (none : Option (Int32)) = some o from hm)
    | succ n2 ih2 =>
      intro x1 k2 H locs ls hm hk2 hP hS hl
      rw [L_X1_firstFault_2.eq_2] at hm
      refine lv_iload_n hx hb dX1_firstFault_2 rfl (lv_at hl 1 rfl) ?_
      refine lv_aload_n hx hb dX1_firstFault_3 rfl (lv_at hl 0 rfl) ?_
      refine va_getN (D := (dC, dI)) (ci := 3) (v := .int v_p0_length) (C := RX3) (T := TX3) (N := 2) hx hb hts iX3 hown hK hP 0 rfl rfl 1 (by decide) f15 (fun _ h9 => h9) rfl dX1_firstFault_4 ?_
      refine lv_icmp_ge (tgt := 30) hx hb dX1_firstFault_7 (by decide) (fun c2 => ?_) (fun c2 => ?_)
      · replace hm := ite_t c2 hm
        exact hk2  _ _ _ hm hP hS (lv_sub hl [0] rfl)
      · replace hm := ite_f c2 hm
        refine lv_iload_n hx hb dX1_firstFault_10 rfl (lv_at hl 1 rfl) ?_
        refine lv_aload_n hx hb dX1_firstFault_11 rfl (lv_at hl 0 rfl) ?_
        refine lv_iload_n hx hb dX1_firstFault_12 rfl (lv_at hl 1 rfl) ?_
        obtain ⟨r3, ho4, hm⟩ := bd1_s hm
        refine kb_calli (Rv := r3) (va_runV (As := [.int x1]) (rest := [.int x1]) ⟨hx, hb, hml, hown, hts⟩ (c_X3_at l dC dI cI cJ cZ cQ t H.size a_p0 a_p0_bytes n_p0_bytes v_p0_length v_p0_bytes x1 (r3) ho4) (cwV 1 hts gX1_firstFault_X3_at rfl rfl rfl (by decide +kernel) ⟨(Nat.le_of_ble_eq_true rfl), (Nat.le_of_ble_eq_true rfl)⟩) ⟨(kb_pre hK hG hP (kb_D hD rfl) hS hA [0, 1] rfl (by decide)).1, (va_recv hK hP (ci := 3) (q0 := 0) rfl rfl), (kb_pre hK hG hP (kb_D hD rfl) hS hA [0, 1] rfl (by decide)).2⟩ rfl rfl hl.1 rfl (lv_room (Nat.le_of_ble_eq_true rfl)) dX1_firstFault_13 ⟨Nat.zero_le _, Nat.zero_le _⟩) hP (kb_D hD rfl) hS hA [0, 1] rfl [(true, 0), (true, 1)] (w2 := [oX3 a_p0 (.ref a_p0_bytes) (.int v_p0_length), aI cI a_p0_bytes n_p0_bytes v_p0_bytes]) rfl (by decide) (fun H locs hP hS => ?_)
        obtain ⟨r5, ho6, hm⟩ := bd1_s hm
        refine kb_calli (Rv := r5) (va_runS (As := [.int x1, .int r3]) (rest := []) ⟨hx, hb, hml, hown, hts⟩ (c_X1_fits l dC dI cI cJ cZ cQ t H.size x1 r3 (r5) ho6) (va_cwS 2 hts gX1_firstFault_X1_fits rfl rfl rfl (by decide +kernel) ⟨(Nat.le_of_ble_eq_true rfl), (Nat.le_of_ble_eq_true rfl)⟩) (kb_pre hK hG hP (kb_D hD rfl) hS hA [] rfl (by decide)) rfl rfl hl.1 rfl (lv_room (Nat.le_of_ble_eq_true rfl)) dX1_firstFault_16 ⟨Nat.zero_le _, Nat.zero_le _⟩) hP (kb_D hD rfl) hS hA [] rfl [(false, 0), (false, 1)] (w2 := [oX3 a_p0 (.ref a_p0_bytes) (.int v_p0_length), aI cI a_p0_bytes n_p0_bytes v_p0_bytes]) rfl (by decide) (fun H locs hP hS => ?_)
        refine lv_if_ne (tgt := 24) hx hb dX1_firstFault_19 (by decide) (fun c7 => ?_) (fun c7 => ?_)
        · replace hm := ite_f c7 hm
          obtain ⟨x8, ex8⟩ : ∃ y : Int32, y = x1 + (1 : Int32) := ⟨_, rfl⟩
          replace hm := nm_t ex8 hm
          refine lv_iinc (v := x8) (lv' := [(1, .int x8), (0, .ref a_p0)]) hx hb dX1_firstFault_24 hl (k := 1) rfl (by rw [ex8]; rfl) (by decide) rfl (fun ls hl => ?_)
          refine lv_goto (tgt := 2) hx hb dX1_firstFault_27 (by decide) ?_
          exact ih2 x8 k2 _ _ _ hm hk2 hP hS (lv_sub hl [1, 0] rfl)
        · replace hm := ite_t c7 hm
          refine lv_iload_n hx hb dX1_firstFault_22 rfl (lv_at hl 1 rfl) ?_
          obtain rfl := Option.some.inj hm
          subst hQ
          exact W.iret hx hb hr (fun t ht hW => ⟨⟨_, (), rfl, rfl, kb_h hP ht⟩, hS.F ht⟩) hS.2.2 dX1_firstFault_23
  refine lp2 1024 (0 : Int32) _ _ _ _ hm (fun  H locs ls hm hP hS hl => ?_) hP hS (lv_sub hl [1, 0] rfl)
  refine lv_aload_n hx hb dX1_firstFault_30 rfl (lv_at hl 0 rfl) ?_
  refine va_getN (D := (dC, dI)) (ci := 3) (v := .int v_p0_length) (C := RX3) (T := TX3) (N := 2) hx hb hts iX3 hown hK hP 0 rfl rfl 1 (by decide) f15 (fun _ h9 => h9) rfl dX1_firstFault_31 ?_
  refine lv_iconst (v := (2 : Int32)) hx hb dX1_firstFault_34 (by decide) ?_
  obtain ⟨k54, ek54, hm⟩ := nm_s hm
  have J54 : ∀ (x9 : Int32) (H : Heap) (locs : List Loc) (ls : Array Slot), k54 x9 = some o → va_P (dC, dI) vwCl [oX3 a_p0 (.ref a_p0_bytes) (.int v_p0_length), aI cI a_p0_bytes n_p0_bytes v_p0_bytes] H → va_S A s.heap H locs → lv_has ls 2 [(0, .ref a_p0)] → W p l e (headSpec wsX1_firstFault { frames := 1, cells := 0, slots := 0, locals := 21 }).room s m [.ref a_p0].toArray below meth c H locs 0 0 Q (F0 m 54 ls [.int x9]) := by
    intro x9 H locs ls hm hP hS hl
    rw [ek54] at hm
    refine lv_istore_n (lv' := [(1, .int x9), (0, .ref a_p0)]) hx hb dX1_firstFault_54 rfl hl (by decide) rfl (fun ls hl => ?_)
    refine lv_iload_n hx hb dX1_firstFault_55 rfl (lv_at hl 0 rfl) ?_
    refine lv_if_eq (tgt := 64) hx hb dX1_firstFault_56 (by decide) (fun c10 => ?_) (fun c10 => ?_)
    · replace hm := ite_t c10 hm
      refine lv_aload_n hx hb dX1_firstFault_64 rfl (lv_at hl 1 rfl) ?_
      refine va_getN (D := (dC, dI)) (ci := 3) (v := .int v_p0_length) (C := RX3) (T := TX3) (N := 2) hx hb hts iX3 hown hK hP 0 rfl rfl 1 (by decide) f15 (fun _ h9 => h9) rfl dX1_firstFault_65 ?_
      obtain rfl := Option.some.inj hm
      subst hQ
      exact W.iret hx hb hr (fun t ht hW => ⟨⟨_, (), rfl, rfl, kb_h hP ht⟩, hS.F ht⟩) hS.2.2 dX1_firstFault_68
    · replace hm := ite_f c10 hm
      refine lv_bipush (v := (-9 : Int32)) hx hb dX1_firstFault_59 (by decide) ?_
      refine lv_goto (tgt := 68) hx hb dX1_firstFault_61 (by decide) ?_
      obtain rfl := Option.some.inj hm
      subst hQ
      exact W.iret hx hb hr (fun t ht hW => ⟨⟨_, (), rfl, rfl, kb_h hP ht⟩, hS.F ht⟩) hS.2.2 dX1_firstFault_68
  obtain ⟨k53, ek53, hm⟩ := nm_s hm
  have J53 : ∀ (H : Heap) (locs : List Loc) (ls : Array Slot), k53 = some o → va_P (dC, dI) vwCl [oX3 a_p0 (.ref a_p0_bytes) (.int v_p0_length), aI cI a_p0_bytes n_p0_bytes v_p0_bytes] H → va_S A s.heap H locs → lv_has ls 2 [(0, .ref a_p0)] → W p l e (headSpec wsX1_firstFault { frames := 1, cells := 0, slots := 0, locals := 21 }).room s m [.ref a_p0].toArray below meth c H locs 0 0 Q (F0 m 53 ls []) := by
    intro  H locs ls hm hP hS hl
    rw [ek53] at hm
    refine lv_iconst (v := (0 : Int32)) hx hb dX1_firstFault_53 (by decide) ?_
    exact J54 (0 : Int32) _ _ _ hm hP hS (lv_sub hl [0] rfl)
  refine lv_icmp_lt (tgt := 53) hx hb dX1_firstFault_35 (by decide) (fun c11 => ?_) (fun c11 => ?_)
  · replace hm := ite_t c11 hm
    exact J53  _ _ _ hm hP hS (lv_sub hl [0] rfl)
  · replace hm := ite_f c11 hm
    refine lv_aload_n hx hb dX1_firstFault_38 rfl (lv_at hl 0 rfl) ?_
    refine va_getN (D := (dC, dI)) (ci := 3) (v := .int v_p0_length) (C := RX3) (T := TX3) (N := 2) hx hb hts iX3 hown hK hP 0 rfl rfl 1 (by decide) f15 (fun _ h9 => h9) rfl dX1_firstFault_39 ?_
    refine lv_iconst (v := (2 : Int32)) hx hb dX1_firstFault_42 (by decide) ?_
    refine lv_isub hx hb dX1_firstFault_43 ?_
    refine lv_iconst (v := (3 : Int32)) hx hb dX1_firstFault_44 (by decide) ?_
    refine lv_irem hx hb dX1_firstFault_45 (by decide) ?_
    refine lv_if_ne (tgt := 53) hx hb dX1_firstFault_46 (by decide) (fun c12 => ?_) (fun c12 => ?_)
    · replace hm := ite_f c12 hm
      exact J53  _ _ _ hm hP hS (lv_sub hl [0] rfl)
    · replace hm := ite_t c12 hm
      refine lv_iconst (v := (1 : Int32)) hx hb dX1_firstFault_49 (by decide) ?_
      refine lv_goto (tgt := 54) hx hb dX1_firstFault_50 (by decide) ?_
      exact J54 (1 : Int32) _ _ _ hm hP hS (lv_sub hl [0] rfl)
set_option maxHeartbeats 4000000 in
set_option maxRecDepth 100000 in
theorem c_X9_fault (l : Launch) (dC : Nat → ClassId) (dI : Nat → Nat → Nat) (cI cJ cZ cQ : ClassId) (t sz : Nat) (a_th : Nat) (a_theText : Nat) (a_theText_bytes : Nat) (n_theText_bytes : Nat) (q_theQuestion : Value) (q_theCastle : Value) (q_now : Value) (q_theActs : Value) (q_theTold : Value) (q_foresight : Value) (q_keptMoments : Value) (q_isKept : Value) (q_marchWorlds : Value) (v_theSeed : Int64) (v_theText_length : Int32) (v_theText_bytes : (Nat → Int32)) (o : Int32) (hm : m_X9_fault n_theText_bytes v_theText_length v_theText_bytes = some o) : Met l yX9_fault wsX9_fault { frames := 2, cells := 0, slots := 0, locals := 42 } (va_Pc [.ref a_th] (cP (dC, dI) (kT cI cJ cZ cQ) t sz [oX9 a_th (.ref a_theText) q_theQuestion q_theCastle q_now q_theActs q_theTold q_foresight q_keptMoments q_isKept q_marchWorlds (.long v_theSeed), oX3 a_theText (.ref a_theText_bytes) (.int v_theText_length), aI cI a_theText_bytes n_theText_bytes v_theText_bytes])) (cQi (dC, dI) (va_A [oX9 a_th (.ref a_theText) q_theQuestion q_theCastle q_now q_theActs q_theTold q_foresight q_keptMoments q_isKept q_marchWorlds (.long v_theSeed), oX3 a_theText (.ref a_theText_bytes) (.int v_theText_length), aI cI a_theText_bytes n_theText_bytes v_theText_bytes] sz) o [oX9 a_th (.ref a_theText) q_theQuestion q_theCastle q_now q_theActs q_theTold q_foresight q_keptMoments q_isKept q_marchWorlds (.long v_theSeed), oX3 a_theText (.ref a_theText_bytes) (.int v_theText_length), aI cI a_theText_bytes n_theText_bytes v_theText_bytes]) 0 0 (va_A [oX9 a_th (.ref a_theText) q_theQuestion q_theCastle q_now q_theActs q_theTold q_foresight q_keptMoments q_isKept q_marchWorlds (.long v_theSeed), oX3 a_theText (.ref a_theText_bytes) (.int v_theText_length), aI cI a_theText_bytes n_theText_bytes v_theText_bytes] sz) := by
  refine Met.ofW (cc := cX9_fault) (maxL := 1) (ret := (some .int)) (by decide) rfl ?_
  intro p e s m args below meth c s₁ B hml hv
  obtain ⟨rfl, hsz, hP, hK, hD0, hG⟩ := hv
  have hx := B.exec
  have hb := B.bytes
  have hr := B.returns
  have hts := atoms_spec (ws := wsX9_fault) B.pre
  have hown : s.vm.findClass RX9 = some m.cls := findClass_of_methodNamed B.named
  have hlocks := B.notSynchronized
  subst hsz
  have hD := hD0.self (sz := s.heap.size)
  generalize hAe : va_A [oX9 a_th (.ref a_theText) q_theQuestion q_theCastle q_now q_theActs q_theTold q_foresight q_keptMoments q_isKept q_marchWorlds (.long v_theSeed), oX3 a_theText (.ref a_theText_bytes) (.int v_theText_length), aI cI a_theText_bytes n_theText_bytes v_theText_bytes] s.heap.size = A at hD hG ⊢
  have hA : ∀ q : Nat, s.heap.size ≤ q → A q := fun q h => by rw [← hAe]; exact Or.inr h
  have hS : va_S A s.heap s.heap [] := va_S.rf
  have hl := lv_entry ([.ref a_th]) (n := 1) (Nat.le_of_ble_eq_true rfl)
  rw [lg_entry_eq]
  generalize (lg_sl ([.ref a_th]) ++ List.replicate (1 - (lg_sl ([.ref a_th])).length) Slot.unset).toArray = ls at hl ⊢
  have hl : lv_has ls 1 [(0, .ref a_th)] := hl
  have iX9 : ∀ w ∈ wsX90, w ∈ wsX9_fault := fun _ h => List.mem_cons_of_mem _ (List.mem_append_left _ (List.mem_append_right _ h))
  have iX3 : ∀ w ∈ wsX30, w ∈ wsX9_fault := fun _ h => List.mem_cons_of_mem _ (List.mem_append_right _ h)
  have f14 := hts (.fieldLink RX9 14 "TrueOnceWeek" "theText" "LTrueOnceWeek$Letters;") (by decide +kernel)
  refine kb_gen (fun Q hQ => ?_)
  unfold m_X9_fault at hm
  refine lv_aload_n hx hb dX9_fault_0 rfl (lv_at hl 0 rfl) ?_
  refine va_get (D := (dC, dI)) (ci := 7) (v := .ref a_theText) (C := RX9) (T := TX9) (N := 11) hx hb hts iX9 hown hK hP 0 rfl rfl 0 (by decide) f14 (fun _ h9 => h9) rfl dX9_fault_1 ?_
  obtain ⟨r1, ho2, hm⟩ := bd1_s hm
  refine kb_calli (Rv := r1) (va_runS (As := [.ref a_theText]) (rest := []) ⟨hx, hb, hml, hown, hts⟩ (c_X1_firstFault l dC dI cI cJ cZ cQ t s.heap.size a_theText a_theText_bytes n_theText_bytes v_theText_length v_theText_bytes (r1) ho2) (va_cwS 1 hts gX9_fault_X1_firstFault rfl rfl rfl (by decide +kernel) ⟨(Nat.le_of_ble_eq_true rfl), (Nat.le_of_ble_eq_true rfl)⟩) (kb_pre hK hG hP (kb_D hD rfl) hS hA [1, 2] rfl (by decide)) rfl rfl hl.1 rfl (lv_room (Nat.le_of_ble_eq_true rfl)) dX9_fault_4 ⟨Nat.zero_le _, Nat.zero_le _⟩) hP (kb_D hD rfl) hS hA [1, 2] rfl [(false, 0), (true, 0), (true, 1)] (w2 := [oX9 a_th (.ref a_theText) q_theQuestion q_theCastle q_now q_theActs q_theTold q_foresight q_keptMoments q_isKept q_marchWorlds (.long v_theSeed), oX3 a_theText (.ref a_theText_bytes) (.int v_theText_length), aI cI a_theText_bytes n_theText_bytes v_theText_bytes]) rfl (by decide) (fun H locs hP hS => ?_)
  obtain rfl := Option.some.inj hm
  subst hQ
  exact W.iret hx hb hr (fun t ht hW => ⟨⟨_, (), rfl, rfl, kb_h hP ht⟩, hS.F ht⟩) hS.2.2 dX9_fault_7
set_option maxHeartbeats 4000000 in
set_option maxRecDepth 100000 in
theorem c_X1_casesThatAgree (l : Launch) (dC : Nat → ClassId) (dI : Nat → Nat → Nat) (cI cJ cZ cQ : ClassId) (t sz : Nat) (a_th : Nat) (v_facts : Int32) (v_so : Int32) (v_common : Int32) (v_cases : Int32) (v_firstTrueDay : Int32) (o : Int32) (hm : m_X1_casesThatAgree v_facts v_so v_common = some o) : Met l yX1_casesThatAgree wsX1_casesThatAgree { frames := 0, cells := 0, slots := 0, locals := 0 } (va_Pc [.ref a_th] (cP (dC, dI) (kT cI cJ cZ cQ) t sz [oX1 a_th (.int v_facts) (.int v_so) (.int v_common) (.int v_cases) (.int v_firstTrueDay)])) (cQi (dC, dI) (va_A [oX1 a_th (.int v_facts) (.int v_so) (.int v_common) (.int v_cases) (.int v_firstTrueDay)] sz) o [oX1 a_th (.int v_facts) (.int v_so) (.int v_common) (.int v_cases) (.int v_firstTrueDay)]) 0 0 (va_A [oX1 a_th (.int v_facts) (.int v_so) (.int v_common) (.int v_cases) (.int v_firstTrueDay)] sz) := by
  refine Met.ofW (cc := cX1_casesThatAgree) (maxL := 3) (ret := (some .int)) (by decide) rfl ?_
  intro p e s m args below meth c s₁ B hml hv
  obtain ⟨rfl, hsz, hP, hK, hD0, hG⟩ := hv
  have hx := B.exec
  have hb := B.bytes
  have hr := B.returns
  have hts := atoms_spec (ws := wsX1_casesThatAgree) B.pre
  have hown : s.vm.findClass RX1 = some m.cls := findClass_of_methodNamed B.named
  have hlocks := B.notSynchronized
  subst hsz
  have hD := hD0.self (sz := s.heap.size)
  generalize hAe : va_A [oX1 a_th (.int v_facts) (.int v_so) (.int v_common) (.int v_cases) (.int v_firstTrueDay)] s.heap.size = A at hD hG ⊢
  have hA : ∀ q : Nat, s.heap.size ≤ q → A q := fun q h => by rw [← hAe]; exact Or.inr h
  have hS : va_S A s.heap s.heap [] := va_S.rf
  have hl := lv_entry ([.ref a_th]) (n := 3) (Nat.le_of_ble_eq_true rfl)
  rw [lg_entry_eq]
  generalize (lg_sl ([.ref a_th]) ++ List.replicate (3 - (lg_sl ([.ref a_th])).length) Slot.unset).toArray = ls at hl ⊢
  have hl : lv_has ls 3 [(0, .ref a_th)] := hl
  have iX1 : ∀ w ∈ wsX10, w ∈ wsX1_casesThatAgree := fun _ h => List.mem_cons_of_mem _ (List.mem_append_right _ h)
  have f37 := hts (.fieldLink RX1 37 "TrueOnceWeek$Castle" "facts" "I") (by decide +kernel)
  have f40 := hts (.fieldLink RX1 40 "TrueOnceWeek$Castle" "so" "I") (by decide +kernel)
  have f43 := hts (.fieldLink RX1 43 "TrueOnceWeek$Castle" "common" "I") (by decide +kernel)
  refine kb_gen (fun Q hQ => ?_)
  unfold m_X1_casesThatAgree at hm
  refine lv_iconst (v := (0 : Int32)) hx hb dX1_casesThatAgree_0 (by decide) ?_
  refine lv_istore_n (lv' := [(1, .int (0 : Int32)), (0, .ref a_th)]) hx hb dX1_casesThatAgree_1 rfl hl (by decide) rfl (fun ls hl => ?_)
  refine lv_iconst (v := (0 : Int32)) hx hb dX1_casesThatAgree_2 (by decide) ?_
  refine lv_istore_n (lv' := [(2, .int (0 : Int32)), (1, .int (0 : Int32)), (0, .ref a_th)]) hx hb dX1_casesThatAgree_3 rfl hl (by decide) rfl (fun ls hl => ?_)
  have lp4 : ∀ (n4 : Nat) (x1 : Int32) (x2 : Int32) (k4 : Int32 → Option (Int32)) (H : Heap) (locs : List Loc) (ls : Array Slot), L_X1_casesThatAgree_4 v_facts v_so v_common n4 x1 x2 k4 = some o → (∀ (x3 : Int32) (H : Heap) (locs : List Loc) (ls : Array Slot), k4 x3 = some o → va_P (dC, dI) vwCl [oX1 a_th (.int v_facts) (.int v_so) (.int v_common) (.int v_cases) (.int v_firstTrueDay)] H → va_S A s.heap H locs → lv_has ls 3 [(1, .int x3)] → W p l e (headSpec wsX1_casesThatAgree { frames := 0, cells := 0, slots := 0, locals := 0 }).room s m [.ref a_th].toArray below meth c H locs 0 0 Q (F0 m 40 ls [])) → va_P (dC, dI) vwCl [oX1 a_th (.int v_facts) (.int v_so) (.int v_common) (.int v_cases) (.int v_firstTrueDay)] H → va_S A s.heap H locs → lv_has ls 3 [(0, .ref a_th), (1, .int x1), (2, .int x2)] → W p l e (headSpec wsX1_casesThatAgree { frames := 0, cells := 0, slots := 0, locals := 0 }).room s m [.ref a_th].toArray below meth c H locs 0 0 Q (F0 m 4 ls []) := by
    intro n4
    induction n4 with
    | zero =>
      intro x1 x2 k4 H locs ls hm
      cases (show (none : Option (Int32)) = some o from hm)
    | succ n4 ih4 =>
      intro x1 x2 k4 H locs ls hm hk4 hP hS hl
      rw [L_X1_casesThatAgree_4.eq_2] at hm
      refine lv_iload_n hx hb dX1_casesThatAgree_4 rfl (lv_at hl 2 rfl) ?_
      refine lv_iconst (v := (1 : Int32)) hx hb dX1_casesThatAgree_5 (by decide) ?_
      refine lv_aload_n hx hb dX1_casesThatAgree_6 rfl (lv_at hl 0 rfl) ?_
      refine va_get (D := (dC, dI)) (ci := 1) (v := .int v_facts) (C := RX1) (T := TX1) (N := 5) hx hb hts iX1 hown hK hP 0 rfl rfl 0 (by decide) f37 (fun _ h9 => h9) rfl dX1_casesThatAgree_7 ?_
      refine lv_ishl hx hb dX1_casesThatAgree_10 ?_
      refine lv_icmp_ge (tgt := 40) hx hb dX1_casesThatAgree_11 (by decide) (fun c4 => ?_) (fun c4 => ?_)
      · replace hm := ite_t c4 hm
        exact hk4 x1 _ _ _ hm hP hS (lv_sub hl [1] rfl)
      · replace hm := ite_f c4 hm
        refine lv_iload_n hx hb dX1_casesThatAgree_14 rfl (lv_at hl 2 rfl) ?_
        refine lv_aload_n hx hb dX1_casesThatAgree_15 rfl (lv_at hl 0 rfl) ?_
        refine va_get (D := (dC, dI)) (ci := 1) (v := .int v_so) (C := RX1) (T := TX1) (N := 5) hx hb hts iX1 hown hK hP 0 rfl rfl 1 (by decide) f40 (fun _ h9 => h9) rfl dX1_casesThatAgree_16 ?_
        refine lv_ixor hx hb dX1_casesThatAgree_19 ?_
        refine lv_aload_n hx hb dX1_casesThatAgree_20 rfl (lv_at hl 0 rfl) ?_
        refine va_get (D := (dC, dI)) (ci := 1) (v := .int v_common) (C := RX1) (T := TX1) (N := 5) hx hb hts iX1 hown hK hP 0 rfl rfl 2 (by decide) f43 (fun _ h9 => h9) rfl dX1_casesThatAgree_21 ?_
        refine lv_iand hx hb dX1_casesThatAgree_24 ?_
        obtain ⟨k34, ek34, hm⟩ := nm_s hm
        have J34 : ∀ (x5 : Int32) (H : Heap) (locs : List Loc) (ls : Array Slot), k34 x5 = some o → va_P (dC, dI) vwCl [oX1 a_th (.int v_facts) (.int v_so) (.int v_common) (.int v_cases) (.int v_firstTrueDay)] H → va_S A s.heap H locs → lv_has ls 3 [(0, .ref a_th), (1, .int x5), (2, .int x2)] → W p l e (headSpec wsX1_casesThatAgree { frames := 0, cells := 0, slots := 0, locals := 0 }).room s m [.ref a_th].toArray below meth c H locs 0 0 Q (F0 m 34 ls []) := by
          intro x5 H locs ls hm hP hS hl
          rw [ek34] at hm
          obtain ⟨x6, ex6⟩ : ∃ y : Int32, y = x2 + (1 : Int32) := ⟨_, rfl⟩
          replace hm := nm_t ex6 hm
          refine lv_iinc (v := x6) (lv' := [(2, .int x6), (0, .ref a_th), (1, .int x5)]) hx hb dX1_casesThatAgree_34 hl (k := 2) rfl (by rw [ex6]; rfl) (by decide) rfl (fun ls hl => ?_)
          refine lv_goto (tgt := 4) hx hb dX1_casesThatAgree_37 (by decide) ?_
          exact ih4 x5 x6 k4 _ _ _ hm hk4 hP hS (lv_sub hl [1, 2, 0] rfl)
        refine lv_if_ne (tgt := 34) hx hb dX1_casesThatAgree_25 (by decide) (fun c7 => ?_) (fun c7 => ?_)
        · replace hm := ite_f c7 hm
          exact J34 x1 _ _ _ hm hP hS (lv_sub hl [0, 1, 2] rfl)
        · replace hm := ite_t c7 hm
          refine lv_iload_n hx hb dX1_casesThatAgree_28 rfl (lv_at hl 1 rfl) ?_
          refine lv_iconst (v := (1 : Int32)) hx hb dX1_casesThatAgree_29 (by decide) ?_
          refine lv_iload_n hx hb dX1_casesThatAgree_30 rfl (lv_at hl 2 rfl) ?_
          refine lv_ishl hx hb dX1_casesThatAgree_31 ?_
          refine lv_ior hx hb dX1_casesThatAgree_32 ?_
          refine lv_topi (fun x8 ex8 => ?_)
          replace hm := nm_t ex8 hm
          refine lv_istore_n (lv' := [(1, .int x8), (0, .ref a_th), (2, .int x2)]) hx hb dX1_casesThatAgree_33 rfl hl (by decide) rfl (fun ls hl => ?_)
          exact J34 x8 _ _ _ hm hP hS (lv_sub hl [1, 0, 2] rfl)
  refine lp4 1024 (0 : Int32) (0 : Int32) _ _ _ _ hm (fun x3 H locs ls hm hP hS hl => ?_) hP hS (lv_sub hl [2, 1, 0] rfl)
  refine lv_iload_n hx hb dX1_casesThatAgree_40 rfl (lv_at hl 0 rfl) ?_
  obtain rfl := Option.some.inj hm
  subst hQ
  exact W.iret hx hb hr (fun t ht hW => ⟨⟨_, (), rfl, rfl, kb_h hP ht⟩, hS.F ht⟩) hS.2.2 dX1_casesThatAgree_41
set_option maxHeartbeats 4000000 in
set_option maxRecDepth 100000 in
theorem c_X1_read (l : Launch) (dC : Nat → ClassId) (dI : Nat → Nat → Nat) (cI cJ cZ cQ : ClassId) (t sz : Nat) (a_th : Nat) (a_p1 : Nat) (a_p1_bytes : Nat) (n_p1_bytes : Nat) (v_facts : Int32) (v_so : Int32) (v_common : Int32) (v_cases : Int32) (v_firstTrueDay : Int32) (v_p1_length : Int32) (v_p1_bytes : (Nat → Int32)) (o : Int32 × Int32 × Int32 × Int32 × Int32) (hm : m_X1_read n_p1_bytes v_facts v_so v_common v_cases v_firstTrueDay v_p1_length v_p1_bytes = some o) : Met l yX1_read wsX1_read { frames := 1, cells := 0, slots := 0, locals := 22 } (va_Pc [.ref a_th, .ref a_p1] (cP (dC, dI) (kT cI cJ cZ cQ) t sz [oX1 a_th (.int v_facts) (.int v_so) (.int v_common) (.int v_cases) (.int v_firstTrueDay), oX3 a_p1 (.ref a_p1_bytes) (.int v_p1_length), aI cI a_p1_bytes n_p1_bytes v_p1_bytes])) (cQv (dC, dI) (va_A [oX1 a_th (.int v_facts) (.int v_so) (.int v_common) (.int v_cases) (.int v_firstTrueDay), oX3 a_p1 (.ref a_p1_bytes) (.int v_p1_length), aI cI a_p1_bytes n_p1_bytes v_p1_bytes] sz) [oX1 a_th (.int (o.1)) (.int (o.2.1)) (.int (o.2.2.1)) (.int (o.2.2.2.1)) (.int (o.2.2.2.2)), oX3 a_p1 (.ref a_p1_bytes) (.int v_p1_length), aI cI a_p1_bytes n_p1_bytes v_p1_bytes]) 0 0 (va_A [oX1 a_th (.int v_facts) (.int v_so) (.int v_common) (.int v_cases) (.int v_firstTrueDay), oX3 a_p1 (.ref a_p1_bytes) (.int v_p1_length), aI cI a_p1_bytes n_p1_bytes v_p1_bytes] sz) := by
  refine Met.ofW (cc := cX1_read) (maxL := 4) (ret := none) (by decide) rfl ?_
  intro p e s m args below meth c s₁ B hml hv
  obtain ⟨rfl, hsz, hP, hK, hD0, hG⟩ := hv
  have hx := B.exec
  have hb := B.bytes
  have hr := B.returns
  have hts := atoms_spec (ws := wsX1_read) B.pre
  have hown : s.vm.findClass RX1 = some m.cls := findClass_of_methodNamed B.named
  have hlocks := B.notSynchronized
  subst hsz
  have hD := hD0.self (sz := s.heap.size)
  generalize hAe : va_A [oX1 a_th (.int v_facts) (.int v_so) (.int v_common) (.int v_cases) (.int v_firstTrueDay), oX3 a_p1 (.ref a_p1_bytes) (.int v_p1_length), aI cI a_p1_bytes n_p1_bytes v_p1_bytes] s.heap.size = A at hD hG ⊢
  have hA : ∀ q : Nat, s.heap.size ≤ q → A q := fun q h => by rw [← hAe]; exact Or.inr h
  have hS : va_S A s.heap s.heap [] := va_S.rf
  have hl := lv_entry ([.ref a_th, .ref a_p1]) (n := 4) (Nat.le_of_ble_eq_true rfl)
  rw [lg_entry_eq]
  generalize (lg_sl ([.ref a_th, .ref a_p1]) ++ List.replicate (4 - (lg_sl ([.ref a_th, .ref a_p1])).length) Slot.unset).toArray = ls at hl ⊢
  have hl : lv_has ls 4 [(0, .ref a_th), (1, .ref a_p1)] := hl
  have iX1 : ∀ w ∈ wsX10, w ∈ wsX1_read := fun _ h => List.mem_cons_of_mem _ (List.mem_append_left _ (List.mem_append_right _ h))
  have iX3 : ∀ w ∈ wsX30, w ∈ wsX1_read := fun _ h => List.mem_cons_of_mem _ (List.mem_append_right _ h)
  have f28 := hts (.fieldLink RX1 28 "TrueOnceWeek$Castle" "firstTrueDay" "I") (by decide +kernel)
  have f15 := va_Nw.use (A := [.ref a_th, .ref a_p1].toArray) (w := .fieldLinkNest RX1 15 "TrueOnceWeek$Letters" "length" "I" "TrueOnceWeek") rfl (hG.1 (RX1, 15, "TrueOnceWeek$Letters", "length", "I") (by decide +kernel))
  have ml31 := hts (.methodLink RX1 31 Lib.Math.min.name) (by decide +kernel)
  have ms31 := hts (.static Lib.Math.min.name) (by decide +kernel)
  have mi31 := hts (.initialized "java/lang/Math") (by decide +kernel)
  have mc31 := hts (.code Lib.Math.min.name Lib.Math.min.code 2 (some .int)) (by decide +kernel)
  have f37 := hts (.fieldLink RX1 37 "TrueOnceWeek$Castle" "facts" "I") (by decide +kernel)
  have f40 := hts (.fieldLink RX1 40 "TrueOnceWeek$Castle" "so" "I") (by decide +kernel)
  have f43 := hts (.fieldLink RX1 43 "TrueOnceWeek$Castle" "common" "I") (by decide +kernel)
  have f9 := hts (.fieldLink RX1 9 "TrueOnceWeek$Castle" "cases" "I") (by decide +kernel)
  refine kb_gen (fun Q hQ => ?_)
  unfold m_X1_read at hm
  refine lv_aload_n hx hb dX1_read_0 rfl (lv_at hl 0 rfl) ?_
  refine lv_aload_n hx hb dX1_read_1 rfl (lv_at hl 1 rfl) ?_
  refine lv_iconst (v := (1 : Int32)) hx hb dX1_read_2 (by decide) ?_
  obtain ⟨r1, ho2, hm⟩ := bd1_s hm
  refine kb_calli (Rv := r1) (va_runV (As := [.int (1 : Int32)]) (rest := [.ref a_th]) ⟨hx, hb, hml, hown, hts⟩ (c_X3_at l dC dI cI cJ cZ cQ t s.heap.size a_p1 a_p1_bytes n_p1_bytes v_p1_length v_p1_bytes (1 : Int32) (r1) ho2) (cwV 1 hts gX1_read_X3_at rfl rfl rfl (by decide +kernel) ⟨(Nat.le_of_ble_eq_true rfl), (Nat.le_of_ble_eq_true rfl)⟩) ⟨(kb_pre hK hG hP (kb_D hD rfl) hS hA [1, 2] rfl (by decide)).1, (va_recv hK hP (ci := 3) (q0 := 1) rfl rfl), (kb_pre hK hG hP (kb_D hD rfl) hS hA [1, 2] rfl (by decide)).2⟩ rfl rfl hl.1 rfl (lv_room (Nat.le_of_ble_eq_true rfl)) dX1_read_3 ⟨Nat.zero_le _, Nat.zero_le _⟩) hP (kb_D hD rfl) hS hA [1, 2] rfl [(false, 0), (true, 0), (true, 1)] (w2 := [oX1 a_th (.int v_facts) (.int v_so) (.int v_common) (.int v_cases) (.int v_firstTrueDay), oX3 a_p1 (.ref a_p1_bytes) (.int v_p1_length), aI cI a_p1_bytes n_p1_bytes v_p1_bytes]) rfl (by decide) (fun H locs hP hS => ?_)
  refine lv_bipush (v := (48 : Int32)) hx hb dX1_read_6 (by decide) ?_
  refine lv_isub hx hb dX1_read_8 ?_
  refine lv_topi (fun x3 ex3 => ?_)
  replace hm := nm_t ex3 hm
  refine va_put (D := (dC, dI)) (ci := 1) (v := .int x3) (ty := .int) (C := RX1) (T := TX1) (N := 5) hx hb hts iX1 tyX1 tyX1_ok nmX1 hown hK hP (kb_D hD rfl) hS 0 rfl rfl 4 (by decide) f28 (fun _ h9 => h9) rfl (by decide +kernel) rfl rfl (Nat.le_of_ble_eq_true rfl) dX1_read_9 (fun H locs hP _ hS => ?_)
  have hP : va_P (dC, dI) vwCl [oX1 a_th (.int v_facts) (.int v_so) (.int v_common) (.int v_cases) (.int x3), oX3 a_p1 (.ref a_p1_bytes) (.int v_p1_length), aI cI a_p1_bytes n_p1_bytes v_p1_bytes] H := hP
  refine lv_aload_n hx hb dX1_read_12 rfl (lv_at hl 0 rfl) ?_
  refine lv_iconst (v := (5 : Int32)) hx hb dX1_read_13 (by decide) ?_
  refine lv_aload_n hx hb dX1_read_14 rfl (lv_at hl 1 rfl) ?_
  refine va_getN (D := (dC, dI)) (ci := 3) (v := .int v_p1_length) (C := RX3) (T := TX3) (N := 2) hx hb hts iX3 hown hK hP 1 rfl rfl 1 (by decide) f15 (fun _ h9 => h9) rfl dX1_read_15 ?_
  refine lv_iconst (v := (2 : Int32)) hx hb dX1_read_18 (by decide) ?_
  refine lv_isub hx hb dX1_read_19 ?_
  refine lv_iconst (v := (3 : Int32)) hx hb dX1_read_20 (by decide) ?_
  refine lv_idiv hx hb dX1_read_21 (by decide) ?_
  refine va_mmin hx hb (by rw [hml]; exact hl.1.symm) hown ml31 ms31 mi31 mc31 (Nat.le_of_ble_eq_true rfl) (Nat.le_of_ble_eq_true rfl) (Nat.zero_le _) (Nat.zero_le _) dX1_read_22 ?_
  refine lv_topi (fun x4 ex4 => ?_)
  replace hm := nm_t ex4 hm
  refine va_put (D := (dC, dI)) (ci := 1) (v := .int x4) (ty := .int) (C := RX1) (T := TX1) (N := 5) hx hb hts iX1 tyX1 tyX1_ok nmX1 hown hK hP (kb_D hD rfl) hS 0 rfl rfl 0 (by decide) f37 (fun _ h9 => h9) rfl (by decide +kernel) rfl rfl (Nat.le_of_ble_eq_true rfl) dX1_read_25 (fun H locs hP _ hS => ?_)
  have hP : va_P (dC, dI) vwCl [oX1 a_th (.int x4) (.int v_so) (.int v_common) (.int v_cases) (.int x3), oX3 a_p1 (.ref a_p1_bytes) (.int v_p1_length), aI cI a_p1_bytes n_p1_bytes v_p1_bytes] H := hP
  refine lv_aload_n hx hb dX1_read_28 rfl (lv_at hl 0 rfl) ?_
  refine lv_iconst (v := (0 : Int32)) hx hb dX1_read_29 (by decide) ?_
  refine va_put (D := (dC, dI)) (ci := 1) (v := .int (0 : Int32)) (ty := .int) (C := RX1) (T := TX1) (N := 5) hx hb hts iX1 tyX1 tyX1_ok nmX1 hown hK hP (kb_D hD rfl) hS 0 rfl rfl 1 (by decide) f40 (fun _ h9 => h9) rfl (by decide +kernel) rfl rfl (Nat.le_of_ble_eq_true rfl) dX1_read_30 (fun H locs hP _ hS => ?_)
  have hP : va_P (dC, dI) vwCl [oX1 a_th (.int x4) (.int (0 : Int32)) (.int v_common) (.int v_cases) (.int x3), oX3 a_p1 (.ref a_p1_bytes) (.int v_p1_length), aI cI a_p1_bytes n_p1_bytes v_p1_bytes] H := hP
  refine lv_aload_n hx hb dX1_read_33 rfl (lv_at hl 0 rfl) ?_
  refine lv_iconst (v := (0 : Int32)) hx hb dX1_read_34 (by decide) ?_
  refine va_put (D := (dC, dI)) (ci := 1) (v := .int (0 : Int32)) (ty := .int) (C := RX1) (T := TX1) (N := 5) hx hb hts iX1 tyX1 tyX1_ok nmX1 hown hK hP (kb_D hD rfl) hS 0 rfl rfl 2 (by decide) f43 (fun _ h9 => h9) rfl (by decide +kernel) rfl rfl (Nat.le_of_ble_eq_true rfl) dX1_read_35 (fun H locs hP _ hS => ?_)
  have hP : va_P (dC, dI) vwCl [oX1 a_th (.int x4) (.int (0 : Int32)) (.int (0 : Int32)) (.int v_cases) (.int x3), oX3 a_p1 (.ref a_p1_bytes) (.int v_p1_length), aI cI a_p1_bytes n_p1_bytes v_p1_bytes] H := hP
  refine lv_iconst (v := (0 : Int32)) hx hb dX1_read_38 (by decide) ?_
  refine lv_istore_n (lv' := [(2, .int (0 : Int32)), (0, .ref a_th), (1, .ref a_p1)]) hx hb dX1_read_39 rfl hl (by decide) rfl (fun ls hl => ?_)
  have lp40 : ∀ (n40 : Nat) (x5 : Int32) (w6 : Int32) (w7 : Int32) (k40 : Int32 → Int32 → Option (Int32 × Int32 × Int32 × Int32 × Int32)) (H : Heap) (locs : List Loc) (ls : Array Slot), L_X1_read_40 v_p1_length v_p1_bytes n_p1_bytes x4 n40 x5 w6 w7 k40 = some o → (∀ (w8 : Int32) (w9 : Int32) (H : Heap) (locs : List Loc) (ls : Array Slot), k40 w8 w9 = some o → va_P (dC, dI) vwCl [oX1 a_th (.int x4) (.int w8) (.int w9) (.int v_cases) (.int x3), oX3 a_p1 (.ref a_p1_bytes) (.int v_p1_length), aI cI a_p1_bytes n_p1_bytes v_p1_bytes] H → va_S A s.heap H locs → lv_has ls 4 [(0, .ref a_th)] → W p l e (headSpec wsX1_read { frames := 1, cells := 0, slots := 0, locals := 22 }).room s m [.ref a_th, .ref a_p1].toArray below meth c H locs 0 0 Q (F0 m 102 ls [])) → va_P (dC, dI) vwCl [oX1 a_th (.int x4) (.int w6) (.int w7) (.int v_cases) (.int x3), oX3 a_p1 (.ref a_p1_bytes) (.int v_p1_length), aI cI a_p1_bytes n_p1_bytes v_p1_bytes] H → va_S A s.heap H locs → lv_has ls 4 [(0, .ref a_th), (1, .ref a_p1), (2, .int x5)] → W p l e (headSpec wsX1_read { frames := 1, cells := 0, slots := 0, locals := 22 }).room s m [.ref a_th, .ref a_p1].toArray below meth c H locs 0 0 Q (F0 m 40 ls []) := by
    intro n40
    induction n40 with
    | zero =>
      intro x5 w6 w7 k40 H locs ls hm
      cases (show (none : Option (Int32 × Int32 × Int32 × Int32 × Int32)) = some o from hm)
    | succ n40 ih40 =>
      intro x5 w6 w7 k40 H locs ls hm hk40 hP hS hl
      rw [L_X1_read_40.eq_2] at hm
      refine lv_iload_n hx hb dX1_read_40 rfl (lv_at hl 2 rfl) ?_
      refine lv_aload_n hx hb dX1_read_41 rfl (lv_at hl 0 rfl) ?_
      refine va_get (D := (dC, dI)) (ci := 1) (v := .int x4) (C := RX1) (T := TX1) (N := 5) hx hb hts iX1 hown hK hP 0 rfl rfl 0 (by decide) f37 (fun _ h9 => h9) rfl dX1_read_42 ?_
      refine lv_icmp_ge (tgt := 102) hx hb dX1_read_45 (by decide) (fun c10 => ?_) (fun c10 => ?_)
      · replace hm := ite_t c10 hm
        exact hk40 w6 w7 _ _ _ hm hP hS (lv_sub hl [0] rfl)
      · replace hm := ite_f c10 hm
        refine lv_iconst (v := (2 : Int32)) hx hb dX1_read_48 (by decide) ?_
        refine lv_iload_n hx hb dX1_read_49 rfl (lv_at hl 2 rfl) ?_
        refine lv_iconst (v := (3 : Int32)) hx hb dX1_read_50 (by decide) ?_
        refine lv_imul hx hb dX1_read_51 ?_
        refine lv_iadd hx hb dX1_read_52 ?_
        refine lv_topi (fun x11 ex11 => ?_)
        replace hm := nm_t ex11 hm
        refine lv_istore_n (lv' := [(3, .int x11), (0, .ref a_th), (1, .ref a_p1), (2, .int x5)]) hx hb dX1_read_53 rfl hl (by decide) rfl (fun ls hl => ?_)
        refine lv_aload_n hx hb dX1_read_54 rfl (lv_at hl 1 rfl) ?_
        refine lv_dup hx hb dX1_read_55 rfl ?_
        refine va_get (D := (dC, dI)) (ci := 1) (v := .int w6) (C := RX1) (T := TX1) (N := 5) hx hb hts iX1 hown hK hP 0 rfl rfl 1 (by decide) f40 (fun _ h9 => h9) rfl dX1_read_56 ?_
        refine lv_aload_n hx hb dX1_read_59 rfl (lv_at hl 2 rfl) ?_
        refine lv_iload_n hx hb dX1_read_60 rfl (lv_at hl 0 rfl) ?_
        refine lv_iconst (v := (1 : Int32)) hx hb dX1_read_61 (by decide) ?_
        refine lv_iadd hx hb dX1_read_62 ?_
        obtain ⟨r12, ho13, hm⟩ := bd1_s hm
        refine kb_calli (Rv := r12) (va_runV (As := [.int (x11 + (1 : Int32))]) (rest := [.int w6, .ref a_th]) ⟨hx, hb, hml, hown, hts⟩ (c_X3_at l dC dI cI cJ cZ cQ t H.size a_p1 a_p1_bytes n_p1_bytes v_p1_length v_p1_bytes (x11 + (1 : Int32)) (r12) ho13) (cwV 1 hts gX1_read_X3_at rfl rfl rfl (by decide +kernel) ⟨(Nat.le_of_ble_eq_true rfl), (Nat.le_of_ble_eq_true rfl)⟩) ⟨(kb_pre hK hG hP (kb_D hD rfl) hS hA [1, 2] rfl (by decide)).1, (va_recv hK hP (ci := 3) (q0 := 1) rfl rfl), (kb_pre hK hG hP (kb_D hD rfl) hS hA [1, 2] rfl (by decide)).2⟩ rfl rfl hl.1 rfl (lv_room (Nat.le_of_ble_eq_true rfl)) dX1_read_63 ⟨Nat.zero_le _, Nat.zero_le _⟩) hP (kb_D hD rfl) hS hA [1, 2] rfl [(false, 0), (true, 0), (true, 1)] (w2 := [oX1 a_th (.int x4) (.int w6) (.int w7) (.int v_cases) (.int x3), oX3 a_p1 (.ref a_p1_bytes) (.int v_p1_length), aI cI a_p1_bytes n_p1_bytes v_p1_bytes]) rfl (by decide) (fun H locs hP hS => ?_)
        refine lv_bipush (v := (48 : Int32)) hx hb dX1_read_66 (by decide) ?_
        refine lv_isub hx hb dX1_read_68 ?_
        refine lv_iload_n hx hb dX1_read_69 rfl (lv_at hl 3 rfl) ?_
        refine lv_ishl hx hb dX1_read_70 ?_
        refine lv_ior hx hb dX1_read_71 ?_
        refine lv_topi (fun x14 ex14 => ?_)
        replace hm := nm_t ex14 hm
        refine va_put (D := (dC, dI)) (ci := 1) (v := .int x14) (ty := .int) (C := RX1) (T := TX1) (N := 5) hx hb hts iX1 tyX1 tyX1_ok nmX1 hown hK hP (kb_D hD rfl) hS 0 rfl rfl 1 (by decide) f40 (fun _ h9 => h9) rfl (by decide +kernel) rfl rfl (Nat.le_of_ble_eq_true rfl) dX1_read_72 (fun H locs hP _ hS => ?_)
        have hP : va_P (dC, dI) vwCl [oX1 a_th (.int x4) (.int x14) (.int w7) (.int v_cases) (.int x3), oX3 a_p1 (.ref a_p1_bytes) (.int v_p1_length), aI cI a_p1_bytes n_p1_bytes v_p1_bytes] H := hP
        refine lv_aload_n hx hb dX1_read_75 rfl (lv_at hl 1 rfl) ?_
        refine lv_dup hx hb dX1_read_76 rfl ?_
        refine va_get (D := (dC, dI)) (ci := 1) (v := .int w7) (C := RX1) (T := TX1) (N := 5) hx hb hts iX1 hown hK hP 0 rfl rfl 2 (by decide) f43 (fun _ h9 => h9) rfl dX1_read_77 ?_
        refine lv_aload_n hx hb dX1_read_80 rfl (lv_at hl 2 rfl) ?_
        refine lv_iload_n hx hb dX1_read_81 rfl (lv_at hl 0 rfl) ?_
        refine lv_iconst (v := (2 : Int32)) hx hb dX1_read_82 (by decide) ?_
        refine lv_iadd hx hb dX1_read_83 ?_
        obtain ⟨r15, ho16, hm⟩ := bd1_s hm
        refine kb_calli (Rv := r15) (va_runV (As := [.int (x11 + (2 : Int32))]) (rest := [.int w7, .ref a_th]) ⟨hx, hb, hml, hown, hts⟩ (c_X3_at l dC dI cI cJ cZ cQ t H.size a_p1 a_p1_bytes n_p1_bytes v_p1_length v_p1_bytes (x11 + (2 : Int32)) (r15) ho16) (cwV 1 hts gX1_read_X3_at rfl rfl rfl (by decide +kernel) ⟨(Nat.le_of_ble_eq_true rfl), (Nat.le_of_ble_eq_true rfl)⟩) ⟨(kb_pre hK hG hP (kb_D hD rfl) hS hA [1, 2] rfl (by decide)).1, (va_recv hK hP (ci := 3) (q0 := 1) rfl rfl), (kb_pre hK hG hP (kb_D hD rfl) hS hA [1, 2] rfl (by decide)).2⟩ rfl rfl hl.1 rfl (lv_room (Nat.le_of_ble_eq_true rfl)) dX1_read_84 ⟨Nat.zero_le _, Nat.zero_le _⟩) hP (kb_D hD rfl) hS hA [1, 2] rfl [(false, 0), (true, 0), (true, 1)] (w2 := [oX1 a_th (.int x4) (.int x14) (.int w7) (.int v_cases) (.int x3), oX3 a_p1 (.ref a_p1_bytes) (.int v_p1_length), aI cI a_p1_bytes n_p1_bytes v_p1_bytes]) rfl (by decide) (fun H locs hP hS => ?_)
        refine lv_bipush (v := (48 : Int32)) hx hb dX1_read_87 (by decide) ?_
        refine lv_isub hx hb dX1_read_89 ?_
        refine lv_iload_n hx hb dX1_read_90 rfl (lv_at hl 3 rfl) ?_
        refine lv_ishl hx hb dX1_read_91 ?_
        refine lv_ior hx hb dX1_read_92 ?_
        refine lv_topi (fun x17 ex17 => ?_)
        replace hm := nm_t ex17 hm
        refine va_put (D := (dC, dI)) (ci := 1) (v := .int x17) (ty := .int) (C := RX1) (T := TX1) (N := 5) hx hb hts iX1 tyX1 tyX1_ok nmX1 hown hK hP (kb_D hD rfl) hS 0 rfl rfl 2 (by decide) f43 (fun _ h9 => h9) rfl (by decide +kernel) rfl rfl (Nat.le_of_ble_eq_true rfl) dX1_read_93 (fun H locs hP _ hS => ?_)
        have hP : va_P (dC, dI) vwCl [oX1 a_th (.int x4) (.int x14) (.int x17) (.int v_cases) (.int x3), oX3 a_p1 (.ref a_p1_bytes) (.int v_p1_length), aI cI a_p1_bytes n_p1_bytes v_p1_bytes] H := hP
        obtain ⟨x18, ex18⟩ : ∃ y : Int32, y = x5 + (1 : Int32) := ⟨_, rfl⟩
        replace hm := nm_t ex18 hm
        refine lv_iinc (v := x18) (lv' := [(2, .int x18), (3, .int x11), (0, .ref a_th), (1, .ref a_p1)]) hx hb dX1_read_96 hl (k := 3) rfl (by rw [ex18]; rfl) (by decide) rfl (fun ls hl => ?_)
        refine lv_goto (tgt := 40) hx hb dX1_read_99 (by decide) ?_
        exact ih40 x18 x14 x17 k40 _ _ _ hm hk40 hP hS (lv_sub hl [2, 3, 0] rfl)
  refine lp40 1024 (0 : Int32) (0 : Int32) (0 : Int32) _ _ _ _ hm (fun w8 w9 H locs ls hm hP hS hl => ?_) hP hS (lv_sub hl [1, 2, 0] rfl)
  refine lv_aload_n hx hb dX1_read_102 rfl (lv_at hl 0 rfl) ?_
  refine lv_aload_n hx hb dX1_read_103 rfl (lv_at hl 0 rfl) ?_
  obtain ⟨r19, ho20, hm⟩ := bd1_s hm
  refine kb_calli (Rv := r19) (va_runV (As := []) (rest := [.ref a_th]) ⟨hx, hb, hml, hown, hts⟩ (c_X1_casesThatAgree l dC dI cI cJ cZ cQ t H.size a_th x4 w8 w9 v_cases x3 (r19) ho20) (cwV 0 hts gX1_read_X1_casesThatAgree rfl rfl rfl (by decide +kernel) ⟨(Nat.le_of_ble_eq_true rfl), (Nat.le_of_ble_eq_true rfl)⟩) ⟨(kb_pre hK hG hP (kb_D hD rfl) hS hA [0] rfl (by decide)).1, (va_recv hK hP (ci := 1) (q0 := 0) rfl rfl), (kb_pre hK hG hP (kb_D hD rfl) hS hA [0] rfl (by decide)).2⟩ rfl rfl hl.1 rfl (lv_room (Nat.le_of_ble_eq_true rfl)) dX1_read_104 ⟨Nat.zero_le _, Nat.zero_le _⟩) hP (kb_D hD rfl) hS hA [0] rfl [(true, 0), (false, 1), (false, 2)] (w2 := [oX1 a_th (.int x4) (.int w8) (.int w9) (.int v_cases) (.int x3), oX3 a_p1 (.ref a_p1_bytes) (.int v_p1_length), aI cI a_p1_bytes n_p1_bytes v_p1_bytes]) rfl (by decide) (fun H locs hP hS => ?_)
  refine va_put (D := (dC, dI)) (ci := 1) (v := .int r19) (ty := .int) (C := RX1) (T := TX1) (N := 5) hx hb hts iX1 tyX1 tyX1_ok nmX1 hown hK hP (kb_D hD rfl) hS 0 rfl rfl 3 (by decide) f9 (fun _ h9 => h9) rfl (by decide +kernel) rfl rfl (Nat.le_of_ble_eq_true rfl) dX1_read_107 (fun H locs hP _ hS => ?_)
  have hP : va_P (dC, dI) vwCl [oX1 a_th (.int x4) (.int w8) (.int w9) (.int r19) (.int x3), oX3 a_p1 (.ref a_p1_bytes) (.int v_p1_length), aI cI a_p1_bytes n_p1_bytes v_p1_bytes] H := hP
  obtain rfl := Option.some.inj hm
  subst hQ
  exact W.vret hx hb hr (fun t ht hW => ⟨⟨(), rfl, trivial, kb_h hP ht⟩, hS.F ht⟩) hS.2.2 dX1_read_110
set_option maxHeartbeats 4000000 in
set_option maxRecDepth 100000 in
theorem c_X8_fill (l : Launch) (dC : Nat → ClassId) (dI : Nat → Nat → Nat) (cI cJ cZ cQ : ClassId) (t sz : Nat) (a_p0 : Nat) (n_p0 : Nat) (v_p0 : (Nat → Int32)) (p_1 : Int32) (o : Nat → Int32) (hm : m_X8_fill p_1 n_p0 v_p0 = some o) : Met l yX8_fill wsX8_fill { frames := 0, cells := 0, slots := 0, locals := 0 } (va_Pc [.ref a_p0, .int p_1] (cP (dC, dI) (kT cI cJ cZ cQ) t sz [aI cI a_p0 n_p0 v_p0])) (cQv (dC, dI) (va_A [aI cI a_p0 n_p0 v_p0] sz) [aI cI a_p0 n_p0 o]) 0 0 (va_A [aI cI a_p0 n_p0 v_p0] sz) := by
  refine Met.ofW (cc := cX8_fill) (maxL := 3) (ret := none) (by decide) rfl ?_
  intro p e s m args below meth c s₁ B hml hv
  obtain ⟨rfl, hsz, hP, hK, hD0, hG⟩ := hv
  have hx := B.exec
  have hb := B.bytes
  have hr := B.returns
  have hts := atoms_spec (ws := wsX8_fill) B.pre
  have hown : s.vm.findClass RX8 = some m.cls := findClass_of_methodNamed B.named
  have hlocks := B.notSynchronized
  subst hsz
  have hD := hD0.self (sz := s.heap.size)
  generalize hAe : va_A [aI cI a_p0 n_p0 v_p0] s.heap.size = A at hD hG ⊢
  have hA : ∀ q : Nat, s.heap.size ≤ q → A q := fun q h => by rw [← hAe]; exact Or.inr h
  have hS : va_S A s.heap s.heap [] := va_S.rf
  have hl := lv_entry ([.ref a_p0, .int p_1]) (n := 3) (Nat.le_of_ble_eq_true rfl)
  rw [lg_entry_eq]
  generalize (lg_sl ([.ref a_p0, .int p_1]) ++ List.replicate (3 - (lg_sl ([.ref a_p0, .int p_1])).length) Slot.unset).toArray = ls at hl ⊢
  have hl : lv_has ls 3 [(0, .ref a_p0), (1, .int p_1)] := hl
  refine kb_gen (fun Q hQ => ?_)
  unfold m_X8_fill at hm
  refine lv_iconst (v := (0 : Int32)) hx hb dX8_fill_0 (by decide) ?_
  refine lv_istore_n (lv' := [(2, .int (0 : Int32)), (0, .ref a_p0), (1, .int p_1)]) hx hb dX8_fill_1 rfl hl (by decide) rfl (fun ls hl => ?_)
  have lp2 : ∀ (n2 : Nat) (x1 : Int32) (w2 : (Nat → Int32)) (k2 : (Nat → Int32) → Option (Nat → Int32)) (H : Heap) (locs : List Loc) (ls : Array Slot), L_X8_fill_2 p_1 n_p0 n2 x1 w2 k2 = some o → (∀ (w3 : (Nat → Int32)) (H : Heap) (locs : List Loc) (ls : Array Slot), k2 w3 = some o → va_P (dC, dI) vwCl [aI cI a_p0 n_p0 w3] H → va_S A s.heap H locs → lv_has ls 3 [] → W p l e (headSpec wsX8_fill { frames := 0, cells := 0, slots := 0, locals := 0 }).room s m [.ref a_p0, .int p_1].toArray below meth c H locs 0 0 Q (F0 m 18 ls [])) → va_P (dC, dI) vwCl [aI cI a_p0 n_p0 w2] H → va_S A s.heap H locs → lv_has ls 3 [(0, .ref a_p0), (1, .int p_1), (2, .int x1)] → W p l e (headSpec wsX8_fill { frames := 0, cells := 0, slots := 0, locals := 0 }).room s m [.ref a_p0, .int p_1].toArray below meth c H locs 0 0 Q (F0 m 2 ls []) := by
    intro n2
    induction n2 with
    | zero =>
      intro x1 w2 k2 H locs ls hm
      cases (show (none : Option (Nat → Int32)) = some o from hm)
    | succ n2 ih2 =>
      intro x1 w2 k2 H locs ls hm hk2 hP hS hl
      rw [L_X8_fill_2.eq_2] at hm
      refine lv_iload_n hx hb dX8_fill_2 rfl (lv_at hl 2 rfl) ?_
      refine lv_aload_n hx hb dX8_fill_3 rfl (lv_at hl 0 rfl) ?_
      refine va_alen (v := (Int32.ofNat n_p0)) hx hb hK hP 0 0 rfl rfl rfl dX8_fill_4 ?_
      refine lv_icmp_ge (tgt := 18) hx hb dX8_fill_5 (by decide) (fun c4 => ?_) (fun c4 => ?_)
      · replace hm := ite_t c4 hm
        exact hk2 w2 _ _ _ hm hP hS (lv_sub hl [] rfl)
      · replace hm := ite_f c4 hm
        refine lv_aload_n hx hb dX8_fill_8 rfl (lv_at hl 0 rfl) ?_
        refine lv_iload_n hx hb dX8_fill_9 rfl (lv_at hl 2 rfl) ?_
        refine lv_iload_n hx hb dX8_fill_10 rfl (lv_at hl 1 rfl) ?_
        obtain ⟨h5, hm⟩ := gd_s hm
        refine va_iast hx hb hK hP (kb_D hD rfl) hS 0 0 rfl rfl (inB_s h5) dX8_fill_11 (fun H locs hP _ hS => ?_)
        have hP : va_P (dC, dI) vwCl [aI cI a_p0 n_p0 (upd w2 (Int32.toNatClampNeg x1) p_1)] H := hP
        obtain ⟨x6, ex6⟩ : ∃ y : Int32, y = x1 + (1 : Int32) := ⟨_, rfl⟩
        replace hm := nm_t ex6 hm
        refine lv_iinc (v := x6) (lv' := [(2, .int x6), (0, .ref a_p0), (1, .int p_1)]) hx hb dX8_fill_12 hl (k := 2) rfl (by rw [ex6]; rfl) (by decide) rfl (fun ls hl => ?_)
        refine lv_goto (tgt := 2) hx hb dX8_fill_15 (by decide) ?_
        exact ih2 x6 (upd w2 (Int32.toNatClampNeg x1) p_1) k2 _ _ _ hm hk2 hP hS (lv_sub hl [1, 2, 0] rfl)
  refine lp2 1024 (0 : Int32) v_p0 _ _ _ _ hm (fun w3 H locs ls hm hP hS hl => ?_) hP hS (lv_sub hl [1, 2, 0] rfl)
  obtain rfl := Option.some.inj hm
  subst hQ
  exact W.vret hx hb hr (fun t ht hW => ⟨⟨(), rfl, trivial, kb_h hP ht⟩, hS.F ht⟩) hS.2.2 dX8_fill_18
set_option maxHeartbeats 4000000 in
set_option maxRecDepth 100000 in
theorem c_X4_begin (l : Launch) (dC : Nat → ClassId) (dI : Nat → Nat → Nat) (cI cJ cZ cQ : ClassId) (t sz : Nat) (a_th : Nat) (a_known : Nat) (v_date : Int32) (v_trueDay : Int32) (v_wasAsked : Int32) (v_clothState : Int32) (v_cracks : Int32) (v_known : (Nat → Int32)) (p_1 : Int32) (p_2 : Int32) (o : Int32 × Int32 × Int32 × Int32 × Int32 × (Nat → Int32)) (hm : m_X4_begin p_1 p_2 v_date v_trueDay v_wasAsked v_clothState v_cracks v_known = some o) : Met l yX4_begin wsX4_begin { frames := 1, cells := 0, slots := 0, locals := 22 } (va_Pc [.ref a_th, .int p_1, .int p_2] (cP (dC, dI) (kT cI cJ cZ cQ) t sz [oX4 a_th (.int v_date) (.int v_trueDay) (.int v_wasAsked) (.int v_clothState) (.int v_cracks) (.ref a_known), aI cI a_known 7 v_known])) (cQv (dC, dI) (va_A [oX4 a_th (.int v_date) (.int v_trueDay) (.int v_wasAsked) (.int v_clothState) (.int v_cracks) (.ref a_known), aI cI a_known 7 v_known] sz) [oX4 a_th (.int (o.1)) (.int (o.2.1)) (.int (o.2.2.1)) (.int (o.2.2.2.1)) (.int (o.2.2.2.2.1)) (.ref a_known), aI cI a_known 7 (o.2.2.2.2.2)]) 0 0 (va_A [oX4 a_th (.int v_date) (.int v_trueDay) (.int v_wasAsked) (.int v_clothState) (.int v_cracks) (.ref a_known), aI cI a_known 7 v_known] sz) := by
  refine Met.ofW (cc := cX4_begin) (maxL := 3) (ret := none) (by decide) rfl ?_
  intro p e s m args below meth c s₁ B hml hv
  obtain ⟨rfl, hsz, hP, hK, hD0, hG⟩ := hv
  have hx := B.exec
  have hb := B.bytes
  have hr := B.returns
  have hts := atoms_spec (ws := wsX4_begin) B.pre
  have hown : s.vm.findClass RX4 = some m.cls := findClass_of_methodNamed B.named
  have hlocks := B.notSynchronized
  subst hsz
  have hD := hD0.self (sz := s.heap.size)
  generalize hAe : va_A [oX4 a_th (.int v_date) (.int v_trueDay) (.int v_wasAsked) (.int v_clothState) (.int v_cracks) (.ref a_known), aI cI a_known 7 v_known] s.heap.size = A at hD hG ⊢
  have hA : ∀ q : Nat, s.heap.size ≤ q → A q := fun q h => by rw [← hAe]; exact Or.inr h
  have hS : va_S A s.heap s.heap [] := va_S.rf
  have hl := lv_entry ([.ref a_th, .int p_1, .int p_2]) (n := 3) (Nat.le_of_ble_eq_true rfl)
  rw [lg_entry_eq]
  generalize (lg_sl ([.ref a_th, .int p_1, .int p_2]) ++ List.replicate (3 - (lg_sl ([.ref a_th, .int p_1, .int p_2])).length) Slot.unset).toArray = ls at hl ⊢
  have hl : lv_has ls 3 [(0, .ref a_th), (1, .int p_1), (2, .int p_2)] := hl
  have iX4 : ∀ w ∈ wsX40, w ∈ wsX4_begin := fun _ h => List.mem_cons_of_mem _ (List.mem_append_right _ h)
  have f15 := hts (.fieldLink RX4 15 "TrueOnceWeek$Moment" "date" "I") (by decide +kernel)
  have f19 := hts (.fieldLink RX4 19 "TrueOnceWeek$Moment" "trueDay" "I") (by decide +kernel)
  have f22 := hts (.fieldLink RX4 22 "TrueOnceWeek$Moment" "wasAsked" "Z") (by decide +kernel)
  have f26 := hts (.fieldLink RX4 26 "TrueOnceWeek$Moment" "clothState" "I") (by decide +kernel)
  have f29 := hts (.fieldLink RX4 29 "TrueOnceWeek$Moment" "cracks" "I") (by decide +kernel)
  have f9 := hts (.fieldLink RX4 9 "TrueOnceWeek$Moment" "known" "[I") (by decide +kernel)
  refine kb_gen (fun Q hQ => ?_)
  unfold m_X4_begin at hm
  refine lv_aload_n hx hb dX4_begin_0 rfl (lv_at hl 0 rfl) ?_
  refine lv_iconst (v := (0 : Int32)) hx hb dX4_begin_1 (by decide) ?_
  refine va_put (D := (dC, dI)) (ci := 4) (v := .int (0 : Int32)) (ty := .int) (C := RX4) (T := TX4) (N := 6) hx hb hts iX4 tyX4 tyX4_ok nmX4 hown hK hP (kb_D hD rfl) hS 0 rfl rfl 0 (by decide) f15 (fun _ h9 => h9) rfl (by decide +kernel) rfl rfl (Nat.le_of_ble_eq_true rfl) dX4_begin_2 (fun H locs hP _ hS => ?_)
  have hP : va_P (dC, dI) vwCl [oX4 a_th (.int (0 : Int32)) (.int v_trueDay) (.int v_wasAsked) (.int v_clothState) (.int v_cracks) (.ref a_known), aI cI a_known 7 v_known] H := hP
  refine lv_aload_n hx hb dX4_begin_5 rfl (lv_at hl 0 rfl) ?_
  refine lv_iload_n hx hb dX4_begin_6 rfl (lv_at hl 1 rfl) ?_
  refine va_put (D := (dC, dI)) (ci := 4) (v := .int p_1) (ty := .int) (C := RX4) (T := TX4) (N := 6) hx hb hts iX4 tyX4 tyX4_ok nmX4 hown hK hP (kb_D hD rfl) hS 0 rfl rfl 1 (by decide) f19 (fun _ h9 => h9) rfl (by decide +kernel) rfl rfl (Nat.le_of_ble_eq_true rfl) dX4_begin_7 (fun H locs hP _ hS => ?_)
  have hP : va_P (dC, dI) vwCl [oX4 a_th (.int (0 : Int32)) (.int p_1) (.int v_wasAsked) (.int v_clothState) (.int v_cracks) (.ref a_known), aI cI a_known 7 v_known] H := hP
  refine lv_aload_n hx hb dX4_begin_10 rfl (lv_at hl 0 rfl) ?_
  refine lv_iconst (v := (0 : Int32)) hx hb dX4_begin_11 (by decide) ?_
  refine va_put (D := (dC, dI)) (ci := 4) (v := .int (0 : Int32)) (ty := .boolean) (C := RX4) (T := TX4) (N := 6) hx hb hts iX4 tyX4 tyX4_ok nmX4 hown hK hP (kb_D hD rfl) hS 0 rfl rfl 2 (by decide) f22 (fun _ h9 => h9) rfl (by decide +kernel) rfl rfl (Nat.le_of_ble_eq_true rfl) dX4_begin_12 (fun H locs hP _ hS => ?_)
  have hP : va_P (dC, dI) vwCl [oX4 a_th (.int (0 : Int32)) (.int p_1) (.int (0 : Int32)) (.int v_clothState) (.int v_cracks) (.ref a_known), aI cI a_known 7 v_known] H := hP
  refine lv_aload_n hx hb dX4_begin_15 rfl (lv_at hl 0 rfl) ?_
  refine lv_iconst (v := (0 : Int32)) hx hb dX4_begin_16 (by decide) ?_
  refine va_put (D := (dC, dI)) (ci := 4) (v := .int (0 : Int32)) (ty := .int) (C := RX4) (T := TX4) (N := 6) hx hb hts iX4 tyX4 tyX4_ok nmX4 hown hK hP (kb_D hD rfl) hS 0 rfl rfl 3 (by decide) f26 (fun _ h9 => h9) rfl (by decide +kernel) rfl rfl (Nat.le_of_ble_eq_true rfl) dX4_begin_17 (fun H locs hP _ hS => ?_)
  have hP : va_P (dC, dI) vwCl [oX4 a_th (.int (0 : Int32)) (.int p_1) (.int (0 : Int32)) (.int (0 : Int32)) (.int v_cracks) (.ref a_known), aI cI a_known 7 v_known] H := hP
  refine lv_aload_n hx hb dX4_begin_20 rfl (lv_at hl 0 rfl) ?_
  refine lv_iconst (v := (0 : Int32)) hx hb dX4_begin_21 (by decide) ?_
  refine va_put (D := (dC, dI)) (ci := 4) (v := .int (0 : Int32)) (ty := .int) (C := RX4) (T := TX4) (N := 6) hx hb hts iX4 tyX4 tyX4_ok nmX4 hown hK hP (kb_D hD rfl) hS 0 rfl rfl 4 (by decide) f29 (fun _ h9 => h9) rfl (by decide +kernel) rfl rfl (Nat.le_of_ble_eq_true rfl) dX4_begin_22 (fun H locs hP _ hS => ?_)
  have hP : va_P (dC, dI) vwCl [oX4 a_th (.int (0 : Int32)) (.int p_1) (.int (0 : Int32)) (.int (0 : Int32)) (.int (0 : Int32)) (.ref a_known), aI cI a_known 7 v_known] H := hP
  refine lv_aload_n hx hb dX4_begin_25 rfl (lv_at hl 0 rfl) ?_
  refine va_get (D := (dC, dI)) (ci := 4) (v := .ref a_known) (C := RX4) (T := TX4) (N := 6) hx hb hts iX4 hown hK hP 0 rfl rfl 5 (by decide) f9 (fun _ h9 => h9) rfl dX4_begin_26 ?_
  refine lv_iload_n hx hb dX4_begin_29 rfl (lv_at hl 2 rfl) ?_
  obtain ⟨w1, ho2, hm⟩ := bd1_s hm
  refine kb_callv (va_runS (As := [.ref a_known, .int p_2]) (rest := []) ⟨hx, hb, hml, hown, hts⟩ (c_X8_fill l dC dI cI cJ cZ cQ t H.size a_known 7 v_known p_2 (w1) ho2) (va_cwS 2 hts gX4_begin_X8_fill rfl rfl rfl (by decide +kernel) ⟨(Nat.le_of_ble_eq_true rfl), (Nat.le_of_ble_eq_true rfl)⟩) (kb_pre hK hG hP (kb_D hD rfl) hS hA [1] rfl (by decide)) rfl rfl hl.1 rfl (lv_room (Nat.le_of_ble_eq_true rfl)) dX4_begin_30 ⟨Nat.zero_le _, Nat.zero_le _⟩) hP (kb_D hD rfl) hS hA [1] rfl [(false, 0), (true, 0)] (w2 := [oX4 a_th (.int (0 : Int32)) (.int p_1) (.int (0 : Int32)) (.int (0 : Int32)) (.int (0 : Int32)) (.ref a_known), aI cI a_known 7 w1]) rfl (by decide) (fun H locs hP hS => ?_)
  obtain rfl := Option.some.inj hm
  subst hQ
  exact W.vret hx hb hr (fun t ht hW => ⟨⟨(), rfl, trivial, kb_h hP ht⟩, hS.F ht⟩) hS.2.2 dX4_begin_33
set_option maxHeartbeats 4000000 in
set_option maxRecDepth 100000 in
theorem c_X0_forget (l : Launch) (dC : Nat → ClassId) (dI : Nat → Nat → Nat) (cI cJ cZ cQ : ClassId) (t sz : Nat) (a_th : Nat) (q_moments : Value) (q_seeds : Value) (v_next : Int32) (v_count : Int32) (o : Int32) (hm : m_X0_forget v_count = some o) : Met l yX0_forget wsX0_forget { frames := 0, cells := 0, slots := 0, locals := 0 } (va_Pc [.ref a_th] (cP (dC, dI) (kT cI cJ cZ cQ) t sz [oX0 a_th q_moments q_seeds (.int v_next) (.int v_count)])) (cQv (dC, dI) (va_A [oX0 a_th q_moments q_seeds (.int v_next) (.int v_count)] sz) [oX0 a_th q_moments q_seeds (.int v_next) (.int o)]) 0 0 (va_A [oX0 a_th q_moments q_seeds (.int v_next) (.int v_count)] sz) := by
  refine Met.ofW (cc := cX0_forget) (maxL := 1) (ret := none) (by decide) rfl ?_
  intro p e s m args below meth c s₁ B hml hv
  obtain ⟨rfl, hsz, hP, hK, hD0, hG⟩ := hv
  have hx := B.exec
  have hb := B.bytes
  have hr := B.returns
  have hts := atoms_spec (ws := wsX0_forget) B.pre
  have hown : s.vm.findClass RX0 = some m.cls := findClass_of_methodNamed B.named
  have hlocks := B.notSynchronized
  subst hsz
  have hD := hD0.self (sz := s.heap.size)
  generalize hAe : va_A [oX0 a_th q_moments q_seeds (.int v_next) (.int v_count)] s.heap.size = A at hD hG ⊢
  have hA : ∀ q : Nat, s.heap.size ≤ q → A q := fun q h => by rw [← hAe]; exact Or.inr h
  have hS : va_S A s.heap s.heap [] := va_S.rf
  have hl := lv_entry ([.ref a_th]) (n := 1) (Nat.le_of_ble_eq_true rfl)
  rw [lg_entry_eq]
  generalize (lg_sl ([.ref a_th]) ++ List.replicate (1 - (lg_sl ([.ref a_th])).length) Slot.unset).toArray = ls at hl ⊢
  have hl : lv_has ls 1 [(0, .ref a_th)] := hl
  have iX0 : ∀ w ∈ wsX00, w ∈ wsX0_forget := fun _ h => List.mem_cons_of_mem _ (List.mem_append_right _ h)
  have f29 := hts (.fieldLink RX0 29 "TrueOnceWeek$Acts" "count" "I") (by decide +kernel)
  refine kb_gen (fun Q hQ => ?_)
  unfold m_X0_forget at hm
  refine lv_aload_n hx hb dX0_forget_0 rfl (lv_at hl 0 rfl) ?_
  refine lv_iconst (v := (0 : Int32)) hx hb dX0_forget_1 (by decide) ?_
  refine va_put (D := (dC, dI)) (ci := 0) (v := .int (0 : Int32)) (ty := .int) (C := RX0) (T := TX0) (N := 4) hx hb hts iX0 tyX0 tyX0_ok nmX0 hown hK hP (kb_D hD rfl) hS 0 rfl rfl 3 (by decide) f29 (fun _ h9 => h9) rfl (by decide +kernel) rfl rfl (Nat.le_of_ble_eq_true rfl) dX0_forget_2 (fun H locs hP _ hS => ?_)
  have hP : va_P (dC, dI) vwCl [oX0 a_th q_moments q_seeds (.int v_next) (.int (0 : Int32))] H := hP
  obtain rfl := Option.some.inj hm
  subst hQ
  exact W.vret hx hb hr (fun t ht hW => ⟨⟨(), rfl, trivial, kb_h hP ht⟩, hS.F ht⟩) hS.2.2 dX0_forget_5
set_option maxHeartbeats 4000000 in
set_option maxRecDepth 100000 in
theorem c_X9_castle (l : Launch) (dC : Nat → ClassId) (dI : Nat → Nat → Nat) (cI cJ cZ cQ : ClassId) (t sz : Nat) (a_th : Nat) (a_theText : Nat) (a_theText_bytes : Nat) (a_theCastle : Nat) (a_now : Nat) (a_now_known : Nat) (a_theActs : Nat) (a_isKept : Nat) (n_theText_bytes : Nat) (q_theQuestion : Value) (q_theTold : Value) (q_foresight : Value) (q_keptMoments : Value) (q_marchWorlds : Value) (q_theActs_moments : Value) (q_theActs_seeds : Value) (v_theSeed : Int64) (v_theText_length : Int32) (v_theText_bytes : (Nat → Int32)) (v_theCastle_facts : Int32) (v_theCastle_so : Int32) (v_theCastle_common : Int32) (v_theCastle_cases : Int32) (v_theCastle_firstTrueDay : Int32) (v_now_date : Int32) (v_now_trueDay : Int32) (v_now_wasAsked : Int32) (v_now_clothState : Int32) (v_now_cracks : Int32) (v_now_known : (Nat → Int32)) (v_theActs_next : Int32) (v_theActs_count : Int32) (v_isKept : (Nat → Int32)) (o : Int32 × Int32 × Int32 × Int32 × Int32 × Int32 × Int32 × Int32 × Int32 × Int32 × Int32 × (Nat → Int32) × Int32 × (Nat → Int32)) (hm : m_X9_castle n_theText_bytes v_theText_length v_theText_bytes v_theCastle_facts v_theCastle_so v_theCastle_common v_theCastle_cases v_theCastle_firstTrueDay v_now_date v_now_trueDay v_now_wasAsked v_now_clothState v_now_cracks v_now_known v_theActs_count v_isKept = some o) : Met l yX9_castle wsX9_castle { frames := 2, cells := 0, slots := 0, locals := 45 } (va_Pc [.ref a_th] (cP (dC, dI) (kT cI cJ cZ cQ) t sz [oX9 a_th (.ref a_theText) q_theQuestion (.ref a_theCastle) (.ref a_now) (.ref a_theActs) q_theTold q_foresight q_keptMoments (.ref a_isKept) q_marchWorlds (.long v_theSeed), oX3 a_theText (.ref a_theText_bytes) (.int v_theText_length), aI cI a_theText_bytes n_theText_bytes v_theText_bytes, oX1 a_theCastle (.int v_theCastle_facts) (.int v_theCastle_so) (.int v_theCastle_common) (.int v_theCastle_cases) (.int v_theCastle_firstTrueDay), oX4 a_now (.int v_now_date) (.int v_now_trueDay) (.int v_now_wasAsked) (.int v_now_clothState) (.int v_now_cracks) (.ref a_now_known), aI cI a_now_known 7 v_now_known, oX0 a_theActs q_theActs_moments q_theActs_seeds (.int v_theActs_next) (.int v_theActs_count), aI cZ a_isKept 2 v_isKept])) (cQi (dC, dI) (va_A [oX9 a_th (.ref a_theText) q_theQuestion (.ref a_theCastle) (.ref a_now) (.ref a_theActs) q_theTold q_foresight q_keptMoments (.ref a_isKept) q_marchWorlds (.long v_theSeed), oX3 a_theText (.ref a_theText_bytes) (.int v_theText_length), aI cI a_theText_bytes n_theText_bytes v_theText_bytes, oX1 a_theCastle (.int v_theCastle_facts) (.int v_theCastle_so) (.int v_theCastle_common) (.int v_theCastle_cases) (.int v_theCastle_firstTrueDay), oX4 a_now (.int v_now_date) (.int v_now_trueDay) (.int v_now_wasAsked) (.int v_now_clothState) (.int v_now_cracks) (.ref a_now_known), aI cI a_now_known 7 v_now_known, oX0 a_theActs q_theActs_moments q_theActs_seeds (.int v_theActs_next) (.int v_theActs_count), aI cZ a_isKept 2 v_isKept] sz) o.1 [oX9 a_th (.ref a_theText) q_theQuestion (.ref a_theCastle) (.ref a_now) (.ref a_theActs) q_theTold q_foresight q_keptMoments (.ref a_isKept) q_marchWorlds (.long v_theSeed), oX3 a_theText (.ref a_theText_bytes) (.int v_theText_length), aI cI a_theText_bytes n_theText_bytes v_theText_bytes, oX1 a_theCastle (.int (o.2.1)) (.int (o.2.2.1)) (.int (o.2.2.2.1)) (.int (o.2.2.2.2.1)) (.int (o.2.2.2.2.2.1)), oX4 a_now (.int (o.2.2.2.2.2.2.1)) (.int (o.2.2.2.2.2.2.2.1)) (.int (o.2.2.2.2.2.2.2.2.1)) (.int (o.2.2.2.2.2.2.2.2.2.1)) (.int (o.2.2.2.2.2.2.2.2.2.2.1)) (.ref a_now_known), aI cI a_now_known 7 (o.2.2.2.2.2.2.2.2.2.2.2.1), oX0 a_theActs q_theActs_moments q_theActs_seeds (.int v_theActs_next) (.int (o.2.2.2.2.2.2.2.2.2.2.2.2.1)), aI cZ a_isKept 2 (o.2.2.2.2.2.2.2.2.2.2.2.2.2)]) 0 0 (va_A [oX9 a_th (.ref a_theText) q_theQuestion (.ref a_theCastle) (.ref a_now) (.ref a_theActs) q_theTold q_foresight q_keptMoments (.ref a_isKept) q_marchWorlds (.long v_theSeed), oX3 a_theText (.ref a_theText_bytes) (.int v_theText_length), aI cI a_theText_bytes n_theText_bytes v_theText_bytes, oX1 a_theCastle (.int v_theCastle_facts) (.int v_theCastle_so) (.int v_theCastle_common) (.int v_theCastle_cases) (.int v_theCastle_firstTrueDay), oX4 a_now (.int v_now_date) (.int v_now_trueDay) (.int v_now_wasAsked) (.int v_now_clothState) (.int v_now_cracks) (.ref a_now_known), aI cI a_now_known 7 v_now_known, oX0 a_theActs q_theActs_moments q_theActs_seeds (.int v_theActs_next) (.int v_theActs_count), aI cZ a_isKept 2 v_isKept] sz) := by
  refine Met.ofW (cc := cX9_castle) (maxL := 2) (ret := (some .int)) (by decide) rfl ?_
  intro p e s m args below meth c s₁ B hml hv
  obtain ⟨rfl, hsz, hP, hK, hD0, hG⟩ := hv
  have hx := B.exec
  have hb := B.bytes
  have hr := B.returns
  have hts := atoms_spec (ws := wsX9_castle) B.pre
  have hown : s.vm.findClass RX9 = some m.cls := findClass_of_methodNamed B.named
  have hlocks := B.notSynchronized
  subst hsz
  have hD := hD0.self (sz := s.heap.size)
  generalize hAe : va_A [oX9 a_th (.ref a_theText) q_theQuestion (.ref a_theCastle) (.ref a_now) (.ref a_theActs) q_theTold q_foresight q_keptMoments (.ref a_isKept) q_marchWorlds (.long v_theSeed), oX3 a_theText (.ref a_theText_bytes) (.int v_theText_length), aI cI a_theText_bytes n_theText_bytes v_theText_bytes, oX1 a_theCastle (.int v_theCastle_facts) (.int v_theCastle_so) (.int v_theCastle_common) (.int v_theCastle_cases) (.int v_theCastle_firstTrueDay), oX4 a_now (.int v_now_date) (.int v_now_trueDay) (.int v_now_wasAsked) (.int v_now_clothState) (.int v_now_cracks) (.ref a_now_known), aI cI a_now_known 7 v_now_known, oX0 a_theActs q_theActs_moments q_theActs_seeds (.int v_theActs_next) (.int v_theActs_count), aI cZ a_isKept 2 v_isKept] s.heap.size = A at hD hG ⊢
  have hA : ∀ q : Nat, s.heap.size ≤ q → A q := fun q h => by rw [← hAe]; exact Or.inr h
  have hS : va_S A s.heap s.heap [] := va_S.rf
  have hl := lv_entry ([.ref a_th]) (n := 2) (Nat.le_of_ble_eq_true rfl)
  rw [lg_entry_eq]
  generalize (lg_sl ([.ref a_th]) ++ List.replicate (2 - (lg_sl ([.ref a_th])).length) Slot.unset).toArray = ls at hl ⊢
  have hl : lv_has ls 2 [(0, .ref a_th)] := hl
  have iX9 : ∀ w ∈ wsX90, w ∈ wsX9_castle := fun _ h => List.mem_cons_of_mem _ (List.mem_append_left _ (List.mem_append_left _ (List.mem_append_left _ (List.mem_append_left _ (List.mem_append_right _ h)))))
  have iX1 : ∀ w ∈ wsX10, w ∈ wsX9_castle := fun _ h => List.mem_cons_of_mem _ (List.mem_append_left _ (List.mem_append_left _ (List.mem_append_left _ (List.mem_append_right _ h))))
  have iX3 : ∀ w ∈ wsX30, w ∈ wsX9_castle := fun _ h => List.mem_cons_of_mem _ (List.mem_append_left _ (List.mem_append_left _ (List.mem_append_right _ h)))
  have iX4 : ∀ w ∈ wsX40, w ∈ wsX9_castle := fun _ h => List.mem_cons_of_mem _ (List.mem_append_left _ (List.mem_append_right _ h))
  have iX0 : ∀ w ∈ wsX00, w ∈ wsX9_castle := fun _ h => List.mem_cons_of_mem _ (List.mem_append_right _ h)
  have f14 := hts (.fieldLink RX9 14 "TrueOnceWeek" "theText" "LTrueOnceWeek$Letters;") (by decide +kernel)
  have f28 := hts (.fieldLink RX9 28 "TrueOnceWeek" "theCastle" "LTrueOnceWeek$Castle;") (by decide +kernel)
  have f35 := hts (.fieldLink RX9 35 "TrueOnceWeek" "now" "LTrueOnceWeek$Moment;") (by decide +kernel)
  have f71 := va_Nw.use (A := [.ref a_th].toArray) (w := .fieldLinkNest RX9 71 "TrueOnceWeek$Castle" "firstTrueDay" "I" "TrueOnceWeek") rfl (hG.1 (RX9, 71, "TrueOnceWeek$Castle", "firstTrueDay", "I") (by decide +kernel))
  have f75 := va_Nw.use (A := [.ref a_th].toArray) (w := .fieldLinkNest RX9 75 "TrueOnceWeek$Castle" "cases" "I" "TrueOnceWeek") rfl (hG.1 (RX9, 75, "TrueOnceWeek$Castle", "cases", "I") (by decide +kernel))
  have f42 := hts (.fieldLink RX9 42 "TrueOnceWeek" "theActs" "LTrueOnceWeek$Acts;") (by decide +kernel)
  have f64 := hts (.fieldLink RX9 64 "TrueOnceWeek" "isKept" "[Z") (by decide +kernel)
  have f101 := va_Nw.use (A := [.ref a_th].toArray) (w := .fieldLinkNest RX9 101 "TrueOnceWeek$Castle" "facts" "I" "TrueOnceWeek") rfl (hG.1 (RX9, 101, "TrueOnceWeek$Castle", "facts", "I") (by decide +kernel))
  refine kb_gen (fun Q hQ => ?_)
  unfold m_X9_castle at hm
  refine lv_aload_n hx hb dX9_castle_0 rfl (lv_at hl 0 rfl) ?_
  refine va_get (D := (dC, dI)) (ci := 7) (v := .ref a_theText) (C := RX9) (T := TX9) (N := 11) hx hb hts iX9 hown hK hP 0 rfl rfl 0 (by decide) f14 (fun _ h9 => h9) rfl dX9_castle_1 ?_
  obtain ⟨r1, ho2, hm⟩ := bd1_s hm
  refine kb_calli (Rv := r1) (va_runS (As := [.ref a_theText]) (rest := []) ⟨hx, hb, hml, hown, hts⟩ (c_X1_firstFault l dC dI cI cJ cZ cQ t s.heap.size a_theText a_theText_bytes n_theText_bytes v_theText_length v_theText_bytes (r1) ho2) (va_cwS 1 hts gX9_castle_X1_firstFault rfl rfl rfl (by decide +kernel) ⟨(Nat.le_of_ble_eq_true rfl), (Nat.le_of_ble_eq_true rfl)⟩) (kb_pre hK hG hP (kb_D hD rfl) hS hA [1, 2] rfl (by decide)) rfl rfl hl.1 rfl (lv_room (Nat.le_of_ble_eq_true rfl)) dX9_castle_4 ⟨Nat.zero_le _, Nat.zero_le _⟩) hP (kb_D hD rfl) hS hA [1, 2] rfl [(false, 0), (true, 0), (true, 1), (false, 3), (false, 4), (false, 5), (false, 6), (false, 7)] (w2 := [oX9 a_th (.ref a_theText) q_theQuestion (.ref a_theCastle) (.ref a_now) (.ref a_theActs) q_theTold q_foresight q_keptMoments (.ref a_isKept) q_marchWorlds (.long v_theSeed), oX3 a_theText (.ref a_theText_bytes) (.int v_theText_length), aI cI a_theText_bytes n_theText_bytes v_theText_bytes, oX1 a_theCastle (.int v_theCastle_facts) (.int v_theCastle_so) (.int v_theCastle_common) (.int v_theCastle_cases) (.int v_theCastle_firstTrueDay), oX4 a_now (.int v_now_date) (.int v_now_trueDay) (.int v_now_wasAsked) (.int v_now_clothState) (.int v_now_cracks) (.ref a_now_known), aI cI a_now_known 7 v_now_known, oX0 a_theActs q_theActs_moments q_theActs_seeds (.int v_theActs_next) (.int v_theActs_count), aI cZ a_isKept 2 v_isKept]) rfl (by decide) (fun H locs hP hS => ?_)
  refine lv_bipush (v := (-9 : Int32)) hx hb dX9_castle_7 (by decide) ?_
  refine lv_icmp_eq (tgt := 15) hx hb dX9_castle_9 (by decide) (fun c3 => ?_) (fun c3 => ?_)
  · replace hm := ite_t c3 hm
    refine lv_aload_n hx hb dX9_castle_15 rfl (lv_at hl 0 rfl) ?_
    refine va_get (D := (dC, dI)) (ci := 7) (v := .ref a_theCastle) (C := RX9) (T := TX9) (N := 11) hx hb hts iX9 hown hK hP 0 rfl rfl 2 (by decide) f28 (fun _ h9 => h9) rfl dX9_castle_16 ?_
    refine lv_aload_n hx hb dX9_castle_19 rfl (lv_at hl 0 rfl) ?_
    refine va_get (D := (dC, dI)) (ci := 7) (v := .ref a_theText) (C := RX9) (T := TX9) (N := 11) hx hb hts iX9 hown hK hP 0 rfl rfl 0 (by decide) f14 (fun _ h9 => h9) rfl dX9_castle_20 ?_
    obtain ⟨w4, w5, w6, w7, w8, ho9, hm⟩ := bd5_s hm
    refine kb_callv (va_runV (As := [.ref a_theText]) (rest := []) ⟨hx, hb, hml, hown, hts⟩ (c_X1_read l dC dI cI cJ cZ cQ t H.size a_theCastle a_theText a_theText_bytes n_theText_bytes v_theCastle_facts v_theCastle_so v_theCastle_common v_theCastle_cases v_theCastle_firstTrueDay v_theText_length v_theText_bytes (w4, w5, w6, w7, w8) ho9) (cwV 1 hts gX9_castle_X1_read rfl rfl rfl (by decide +kernel) ⟨(Nat.le_of_ble_eq_true rfl), (Nat.le_of_ble_eq_true rfl)⟩) ⟨(kb_pre hK hG hP (kb_D hD rfl) hS hA [3, 1, 2] rfl (by decide)).1, (va_recv hK hP (ci := 1) (q0 := 3) rfl rfl), (kb_pre hK hG hP (kb_D hD rfl) hS hA [3, 1, 2] rfl (by decide)).2⟩ rfl rfl hl.1 rfl (lv_room (Nat.le_of_ble_eq_true rfl)) dX9_castle_23 ⟨Nat.zero_le _, Nat.zero_le _⟩) hP (kb_D hD rfl) hS hA [3, 1, 2] rfl [(false, 0), (true, 1), (true, 2), (true, 0), (false, 4), (false, 5), (false, 6), (false, 7)] (w2 := [oX9 a_th (.ref a_theText) q_theQuestion (.ref a_theCastle) (.ref a_now) (.ref a_theActs) q_theTold q_foresight q_keptMoments (.ref a_isKept) q_marchWorlds (.long v_theSeed), oX3 a_theText (.ref a_theText_bytes) (.int v_theText_length), aI cI a_theText_bytes n_theText_bytes v_theText_bytes, oX1 a_theCastle (.int w4) (.int w5) (.int w6) (.int w7) (.int w8), oX4 a_now (.int v_now_date) (.int v_now_trueDay) (.int v_now_wasAsked) (.int v_now_clothState) (.int v_now_cracks) (.ref a_now_known), aI cI a_now_known 7 v_now_known, oX0 a_theActs q_theActs_moments q_theActs_seeds (.int v_theActs_next) (.int v_theActs_count), aI cZ a_isKept 2 v_isKept]) rfl (by decide) (fun H locs hP hS => ?_)
    refine lv_aload_n hx hb dX9_castle_26 rfl (lv_at hl 0 rfl) ?_
    refine va_get (D := (dC, dI)) (ci := 7) (v := .ref a_now) (C := RX9) (T := TX9) (N := 11) hx hb hts iX9 hown hK hP 0 rfl rfl 3 (by decide) f35 (fun _ h9 => h9) rfl dX9_castle_27 ?_
    refine lv_aload_n hx hb dX9_castle_30 rfl (lv_at hl 0 rfl) ?_
    refine va_get (D := (dC, dI)) (ci := 7) (v := .ref a_theCastle) (C := RX9) (T := TX9) (N := 11) hx hb hts iX9 hown hK hP 0 rfl rfl 2 (by decide) f28 (fun _ h9 => h9) rfl dX9_castle_31 ?_
    refine va_getN (D := (dC, dI)) (ci := 1) (v := .int w8) (C := RX1) (T := TX1) (N := 5) hx hb hts iX1 hown hK hP 3 rfl rfl 4 (by decide) f71 (fun _ h9 => h9) rfl dX9_castle_34 ?_
    refine lv_aload_n hx hb dX9_castle_37 rfl (lv_at hl 0 rfl) ?_
    refine va_get (D := (dC, dI)) (ci := 7) (v := .ref a_theCastle) (C := RX9) (T := TX9) (N := 11) hx hb hts iX9 hown hK hP 0 rfl rfl 2 (by decide) f28 (fun _ h9 => h9) rfl dX9_castle_38 ?_
    refine va_getN (D := (dC, dI)) (ci := 1) (v := .int w7) (C := RX1) (T := TX1) (N := 5) hx hb hts iX1 hown hK hP 3 rfl rfl 3 (by decide) f75 (fun _ h9 => h9) rfl dX9_castle_41 ?_
    obtain ⟨w10, w11, w12, w13, w14, w15, ho16, hm⟩ := bd6_s hm
    refine kb_callv (va_runV (As := [.int w8, .int w7]) (rest := []) ⟨hx, hb, hml, hown, hts⟩ (c_X4_begin l dC dI cI cJ cZ cQ t H.size a_now a_now_known v_now_date v_now_trueDay v_now_wasAsked v_now_clothState v_now_cracks v_now_known w8 w7 (w10, w11, w12, w13, w14, w15) ho16) (cwV 2 hts gX9_castle_X4_begin rfl rfl rfl (by decide +kernel) ⟨(Nat.le_of_ble_eq_true rfl), (Nat.le_of_ble_eq_true rfl)⟩) ⟨(kb_pre hK hG hP (kb_D hD rfl) hS hA [4, 5] rfl (by decide)).1, (va_recv hK hP (ci := 4) (q0 := 4) rfl rfl), (kb_pre hK hG hP (kb_D hD rfl) hS hA [4, 5] rfl (by decide)).2⟩ rfl rfl hl.1 rfl (lv_room (Nat.le_of_ble_eq_true rfl)) dX9_castle_44 ⟨Nat.zero_le _, Nat.zero_le _⟩) hP (kb_D hD rfl) hS hA [4, 5] rfl [(false, 0), (false, 1), (false, 2), (false, 3), (true, 0), (true, 1), (false, 6), (false, 7)] (w2 := [oX9 a_th (.ref a_theText) q_theQuestion (.ref a_theCastle) (.ref a_now) (.ref a_theActs) q_theTold q_foresight q_keptMoments (.ref a_isKept) q_marchWorlds (.long v_theSeed), oX3 a_theText (.ref a_theText_bytes) (.int v_theText_length), aI cI a_theText_bytes n_theText_bytes v_theText_bytes, oX1 a_theCastle (.int w4) (.int w5) (.int w6) (.int w7) (.int w8), oX4 a_now (.int w10) (.int w11) (.int w12) (.int w13) (.int w14) (.ref a_now_known), aI cI a_now_known 7 w15, oX0 a_theActs q_theActs_moments q_theActs_seeds (.int v_theActs_next) (.int v_theActs_count), aI cZ a_isKept 2 v_isKept]) rfl (by decide) (fun H locs hP hS => ?_)
    refine lv_aload_n hx hb dX9_castle_47 rfl (lv_at hl 0 rfl) ?_
    refine va_get (D := (dC, dI)) (ci := 7) (v := .ref a_theActs) (C := RX9) (T := TX9) (N := 11) hx hb hts iX9 hown hK hP 0 rfl rfl 4 (by decide) f42 (fun _ h9 => h9) rfl dX9_castle_48 ?_
    obtain ⟨w17, ho18, hm⟩ := bd1_s hm
    refine kb_callv (va_runV (As := []) (rest := []) ⟨hx, hb, hml, hown, hts⟩ (c_X0_forget l dC dI cI cJ cZ cQ t H.size a_theActs q_theActs_moments q_theActs_seeds v_theActs_next v_theActs_count (w17) ho18) (cwV 0 hts gX9_castle_X0_forget rfl rfl rfl (by decide +kernel) ⟨(Nat.le_of_ble_eq_true rfl), (Nat.le_of_ble_eq_true rfl)⟩) ⟨(kb_pre hK hG hP (kb_D hD rfl) hS hA [6] rfl (by decide)).1, (va_recv hK hP (ci := 0) (q0 := 6) rfl rfl), (kb_pre hK hG hP (kb_D hD rfl) hS hA [6] rfl (by decide)).2⟩ rfl rfl hl.1 rfl (lv_room (Nat.le_of_ble_eq_true rfl)) dX9_castle_51 ⟨Nat.zero_le _, Nat.zero_le _⟩) hP (kb_D hD rfl) hS hA [6] rfl [(false, 0), (false, 1), (false, 2), (false, 3), (false, 4), (false, 5), (true, 0), (false, 7)] (w2 := [oX9 a_th (.ref a_theText) q_theQuestion (.ref a_theCastle) (.ref a_now) (.ref a_theActs) q_theTold q_foresight q_keptMoments (.ref a_isKept) q_marchWorlds (.long v_theSeed), oX3 a_theText (.ref a_theText_bytes) (.int v_theText_length), aI cI a_theText_bytes n_theText_bytes v_theText_bytes, oX1 a_theCastle (.int w4) (.int w5) (.int w6) (.int w7) (.int w8), oX4 a_now (.int w10) (.int w11) (.int w12) (.int w13) (.int w14) (.ref a_now_known), aI cI a_now_known 7 w15, oX0 a_theActs q_theActs_moments q_theActs_seeds (.int v_theActs_next) (.int w17), aI cZ a_isKept 2 v_isKept]) rfl (by decide) (fun H locs hP hS => ?_)
    refine lv_iconst (v := (0 : Int32)) hx hb dX9_castle_54 (by decide) ?_
    refine lv_istore_n (lv' := [(1, .int (0 : Int32)), (0, .ref a_th)]) hx hb dX9_castle_55 rfl hl (by decide) rfl (fun ls hl => ?_)
    have lp56 : ∀ (n56 : Nat) (x19 : Int32) (w20 : (Nat → Int32)) (k56 : (Nat → Int32) → Option (Int32 × Int32 × Int32 × Int32 × Int32 × Int32 × Int32 × Int32 × Int32 × Int32 × Int32 × (Nat → Int32) × Int32 × (Nat → Int32))) (H : Heap) (locs : List Loc) (ls : Array Slot), L_X9_castle_56 n56 x19 w20 k56 = some o → (∀ (w21 : (Nat → Int32)) (H : Heap) (locs : List Loc) (ls : Array Slot), k56 w21 = some o → va_P (dC, dI) vwCl [oX9 a_th (.ref a_theText) q_theQuestion (.ref a_theCastle) (.ref a_now) (.ref a_theActs) q_theTold q_foresight q_keptMoments (.ref a_isKept) q_marchWorlds (.long v_theSeed), oX3 a_theText (.ref a_theText_bytes) (.int v_theText_length), aI cI a_theText_bytes n_theText_bytes v_theText_bytes, oX1 a_theCastle (.int w4) (.int w5) (.int w6) (.int w7) (.int w8), oX4 a_now (.int w10) (.int w11) (.int w12) (.int w13) (.int w14) (.ref a_now_known), aI cI a_now_known 7 w15, oX0 a_theActs q_theActs_moments q_theActs_seeds (.int v_theActs_next) (.int w17), aI cZ a_isKept 2 w21] H → va_S A s.heap H locs → lv_has ls 2 [(0, .ref a_th)] → W p l e (headSpec wsX9_castle { frames := 2, cells := 0, slots := 0, locals := 45 }).room s m [.ref a_th].toArray below meth c H locs 0 0 Q (F0 m 74 ls [])) → va_P (dC, dI) vwCl [oX9 a_th (.ref a_theText) q_theQuestion (.ref a_theCastle) (.ref a_now) (.ref a_theActs) q_theTold q_foresight q_keptMoments (.ref a_isKept) q_marchWorlds (.long v_theSeed), oX3 a_theText (.ref a_theText_bytes) (.int v_theText_length), aI cI a_theText_bytes n_theText_bytes v_theText_bytes, oX1 a_theCastle (.int w4) (.int w5) (.int w6) (.int w7) (.int w8), oX4 a_now (.int w10) (.int w11) (.int w12) (.int w13) (.int w14) (.ref a_now_known), aI cI a_now_known 7 w15, oX0 a_theActs q_theActs_moments q_theActs_seeds (.int v_theActs_next) (.int w17), aI cZ a_isKept 2 w20] H → va_S A s.heap H locs → lv_has ls 2 [(0, .ref a_th), (1, .int x19)] → W p l e (headSpec wsX9_castle { frames := 2, cells := 0, slots := 0, locals := 45 }).room s m [.ref a_th].toArray below meth c H locs 0 0 Q (F0 m 56 ls []) := by
      intro n56
      induction n56 with
      | zero =>
        intro x19 w20 k56 H locs ls hm
        cases (show (none : Option (Int32 × Int32 × Int32 × Int32 × Int32 × Int32 × Int32 × Int32 × Int32 × Int32 × Int32 × (Nat → Int32) × Int32 × (Nat → Int32))) = some o from hm)
      | succ n56 ih56 =>
        intro x19 w20 k56 H locs ls hm hk56 hP hS hl
        rw [L_X9_castle_56.eq_2] at hm
        refine lv_iload_n hx hb dX9_castle_56 rfl (lv_at hl 1 rfl) ?_
        refine lv_iconst (v := (2 : Int32)) hx hb dX9_castle_57 (by decide) ?_
        refine lv_icmp_ge (tgt := 74) hx hb dX9_castle_58 (by decide) (fun c22 => ?_) (fun c22 => ?_)
        · replace hm := ite_t c22 hm
          exact hk56 w20 _ _ _ hm hP hS (lv_sub hl [0] rfl)
        · replace hm := ite_f c22 hm
          refine lv_aload_n hx hb dX9_castle_61 rfl (lv_at hl 0 rfl) ?_
          refine va_get (D := (dC, dI)) (ci := 7) (v := .ref a_isKept) (C := RX9) (T := TX9) (N := 11) hx hb hts iX9 hown hK hP 0 rfl rfl 8 (by decide) f64 (fun _ h9 => h9) rfl dX9_castle_62 ?_
          refine lv_iload_n hx hb dX9_castle_65 rfl (lv_at hl 1 rfl) ?_
          refine lv_iconst (v := (0 : Int32)) hx hb dX9_castle_66 (by decide) ?_
          obtain ⟨h23, hm⟩ := gd_s hm
          refine va_zast hx hb hK hP (kb_D hD rfl) hS 7 2 rfl rfl (inB_s h23) dX9_castle_67 (fun H locs hP _ hS => ?_)
          have hP : va_P (dC, dI) vwCl [oX9 a_th (.ref a_theText) q_theQuestion (.ref a_theCastle) (.ref a_now) (.ref a_theActs) q_theTold q_foresight q_keptMoments (.ref a_isKept) q_marchWorlds (.long v_theSeed), oX3 a_theText (.ref a_theText_bytes) (.int v_theText_length), aI cI a_theText_bytes n_theText_bytes v_theText_bytes, oX1 a_theCastle (.int w4) (.int w5) (.int w6) (.int w7) (.int w8), oX4 a_now (.int w10) (.int w11) (.int w12) (.int w13) (.int w14) (.ref a_now_known), aI cI a_now_known 7 w15, oX0 a_theActs q_theActs_moments q_theActs_seeds (.int v_theActs_next) (.int w17), aI cZ a_isKept 2 (upd w20 (Int32.toNatClampNeg x19) (vp_nar .boolean (0 : Int32)))] H := hP
          obtain ⟨x24, ex24⟩ : ∃ y : Int32, y = x19 + (1 : Int32) := ⟨_, rfl⟩
          replace hm := nm_t ex24 hm
          refine lv_iinc (v := x24) (lv' := [(1, .int x24), (0, .ref a_th)]) hx hb dX9_castle_68 hl (k := 1) rfl (by rw [ex24]; rfl) (by decide) rfl (fun ls hl => ?_)
          refine lv_goto (tgt := 56) hx hb dX9_castle_71 (by decide) ?_
          exact ih56 x24 (upd w20 (Int32.toNatClampNeg x19) (vp_nar .boolean (0 : Int32))) k56 _ _ _ hm hk56 hP hS (lv_sub hl [1, 0] rfl)
    refine lp56 1024 (0 : Int32) v_isKept _ _ _ _ hm (fun w21 H locs ls hm hP hS hl => ?_) hP hS (lv_sub hl [1, 0] rfl)
    refine lv_aload_n hx hb dX9_castle_74 rfl (lv_at hl 0 rfl) ?_
    refine va_get (D := (dC, dI)) (ci := 7) (v := .ref a_theCastle) (C := RX9) (T := TX9) (N := 11) hx hb hts iX9 hown hK hP 0 rfl rfl 2 (by decide) f28 (fun _ h9 => h9) rfl dX9_castle_75 ?_
    refine va_getN (D := (dC, dI)) (ci := 1) (v := .int w4) (C := RX1) (T := TX1) (N := 5) hx hb hts iX1 hown hK hP 3 rfl rfl 0 (by decide) f101 (fun _ h9 => h9) rfl dX9_castle_78 ?_
    obtain rfl := Option.some.inj hm
    subst hQ
    exact W.iret hx hb hr (fun t ht hW => ⟨⟨_, (), rfl, rfl, kb_h hP ht⟩, hS.F ht⟩) hS.2.2 dX9_castle_81
  · replace hm := ite_f c3 hm
    refine lv_bipush (v := (-3 : Int32)) hx hb dX9_castle_12 (by decide) ?_
    obtain rfl := Option.some.inj hm
    subst hQ
    exact W.iret hx hb hr (fun t ht hW => ⟨⟨_, (), rfl, rfl, kb_h hP ht⟩, hS.F ht⟩) hS.2.2 dX9_castle_14
set_option maxHeartbeats 4000000 in
set_option maxRecDepth 100000 in
theorem c_X9_quill (l : Launch) (dC : Nat → ClassId) (dI : Nat → Nat → Nat) (cI cJ cZ cQ : ClassId) (t sz : Nat) (a_th : Nat) (a_theQuestion : Nat) (a_theQuestion_letters : Nat) (a_theQuestion_letters_bytes : Nat) (n_theQuestion_letters_bytes : Nat) (q_theText : Value) (q_theCastle : Value) (q_now : Value) (q_theActs : Value) (q_theTold : Value) (q_foresight : Value) (q_keptMoments : Value) (q_isKept : Value) (q_marchWorlds : Value) (q_theQuestion_stack : Value) (v_theSeed : Int64) (v_theQuestion_letters_length : Int32) (v_theQuestion_letters_bytes : (Nat → Int32)) (p_1 : Int32) (o : Int32 × Int32 × (Nat → Int32)) (hm : m_X9_quill p_1 n_theQuestion_letters_bytes v_theQuestion_letters_length v_theQuestion_letters_bytes = some o) : Met l yX9_quill wsX9_quill { frames := 1, cells := 0, slots := 0, locals := 21 } (va_Pc [.ref a_th, .int p_1] (cP (dC, dI) (kT cI cJ cZ cQ) t sz [oX9 a_th q_theText (.ref a_theQuestion) q_theCastle q_now q_theActs q_theTold q_foresight q_keptMoments q_isKept q_marchWorlds (.long v_theSeed), oX5 a_theQuestion (.ref a_theQuestion_letters) q_theQuestion_stack, oX3 a_theQuestion_letters (.ref a_theQuestion_letters_bytes) (.int v_theQuestion_letters_length), aI cI a_theQuestion_letters_bytes n_theQuestion_letters_bytes v_theQuestion_letters_bytes])) (cQi (dC, dI) (va_A [oX9 a_th q_theText (.ref a_theQuestion) q_theCastle q_now q_theActs q_theTold q_foresight q_keptMoments q_isKept q_marchWorlds (.long v_theSeed), oX5 a_theQuestion (.ref a_theQuestion_letters) q_theQuestion_stack, oX3 a_theQuestion_letters (.ref a_theQuestion_letters_bytes) (.int v_theQuestion_letters_length), aI cI a_theQuestion_letters_bytes n_theQuestion_letters_bytes v_theQuestion_letters_bytes] sz) o.1 [oX9 a_th q_theText (.ref a_theQuestion) q_theCastle q_now q_theActs q_theTold q_foresight q_keptMoments q_isKept q_marchWorlds (.long v_theSeed), oX5 a_theQuestion (.ref a_theQuestion_letters) q_theQuestion_stack, oX3 a_theQuestion_letters (.ref a_theQuestion_letters_bytes) (.int (o.2.1)), aI cI a_theQuestion_letters_bytes n_theQuestion_letters_bytes (o.2.2)]) 0 0 (va_A [oX9 a_th q_theText (.ref a_theQuestion) q_theCastle q_now q_theActs q_theTold q_foresight q_keptMoments q_isKept q_marchWorlds (.long v_theSeed), oX5 a_theQuestion (.ref a_theQuestion_letters) q_theQuestion_stack, oX3 a_theQuestion_letters (.ref a_theQuestion_letters_bytes) (.int v_theQuestion_letters_length), aI cI a_theQuestion_letters_bytes n_theQuestion_letters_bytes v_theQuestion_letters_bytes] sz) := by
  refine Met.ofW (cc := cX9_quill) (maxL := 2) (ret := (some .int)) (by decide) rfl ?_
  intro p e s m args below meth c s₁ B hml hv
  obtain ⟨rfl, hsz, hP, hK, hD0, hG⟩ := hv
  have hx := B.exec
  have hb := B.bytes
  have hr := B.returns
  have hts := atoms_spec (ws := wsX9_quill) B.pre
  have hown : s.vm.findClass RX9 = some m.cls := findClass_of_methodNamed B.named
  have hlocks := B.notSynchronized
  subst hsz
  have hD := hD0.self (sz := s.heap.size)
  generalize hAe : va_A [oX9 a_th q_theText (.ref a_theQuestion) q_theCastle q_now q_theActs q_theTold q_foresight q_keptMoments q_isKept q_marchWorlds (.long v_theSeed), oX5 a_theQuestion (.ref a_theQuestion_letters) q_theQuestion_stack, oX3 a_theQuestion_letters (.ref a_theQuestion_letters_bytes) (.int v_theQuestion_letters_length), aI cI a_theQuestion_letters_bytes n_theQuestion_letters_bytes v_theQuestion_letters_bytes] s.heap.size = A at hD hG ⊢
  have hA : ∀ q : Nat, s.heap.size ≤ q → A q := fun q h => by rw [← hAe]; exact Or.inr h
  have hS : va_S A s.heap s.heap [] := va_S.rf
  have hl := lv_entry ([.ref a_th, .int p_1]) (n := 2) (Nat.le_of_ble_eq_true rfl)
  rw [lg_entry_eq]
  generalize (lg_sl ([.ref a_th, .int p_1]) ++ List.replicate (2 - (lg_sl ([.ref a_th, .int p_1])).length) Slot.unset).toArray = ls at hl ⊢
  have hl : lv_has ls 2 [(0, .ref a_th), (1, .int p_1)] := hl
  have iX9 : ∀ w ∈ wsX90, w ∈ wsX9_quill := fun _ h => List.mem_cons_of_mem _ (List.mem_append_left _ (List.mem_append_left _ (List.mem_append_right _ h)))
  have iX5 : ∀ w ∈ wsX50, w ∈ wsX9_quill := fun _ h => List.mem_cons_of_mem _ (List.mem_append_left _ (List.mem_append_right _ h))
  have iX3 : ∀ w ∈ wsX30, w ∈ wsX9_quill := fun _ h => List.mem_cons_of_mem _ (List.mem_append_right _ h)
  have f21 := hts (.fieldLink RX9 21 "TrueOnceWeek" "theQuestion" "LTrueOnceWeek$Question;") (by decide +kernel)
  have f104 := va_Nw.use (A := [.ref a_th, .int p_1].toArray) (w := .fieldLinkNest RX9 104 "TrueOnceWeek$Question" "letters" "LTrueOnceWeek$Letters;" "TrueOnceWeek") rfl (hG.1 (RX9, 104, "TrueOnceWeek$Question", "letters", "LTrueOnceWeek$Letters;") (by decide +kernel))
  refine kb_gen (fun Q hQ => ?_)
  unfold m_X9_quill at hm
  refine lv_aload_n hx hb dX9_quill_0 rfl (lv_at hl 0 rfl) ?_
  refine va_get (D := (dC, dI)) (ci := 7) (v := .ref a_theQuestion) (C := RX9) (T := TX9) (N := 11) hx hb hts iX9 hown hK hP 0 rfl rfl 1 (by decide) f21 (fun _ h9 => h9) rfl dX9_quill_1 ?_
  refine va_getN (D := (dC, dI)) (ci := 5) (v := .ref a_theQuestion_letters) (C := RX5) (T := TX5) (N := 2) hx hb hts iX5 hown hK hP 1 rfl rfl 0 (by decide) f104 (fun _ h9 => h9) rfl dX9_quill_4 ?_
  refine lv_iload_n hx hb dX9_quill_7 rfl (lv_at hl 1 rfl) ?_
  obtain ⟨r1, w2, w3, ho4, hm⟩ := bd3_s hm
  refine kb_calli (Rv := r1) (va_runV (As := [.int p_1]) (rest := []) ⟨hx, hb, hml, hown, hts⟩ (c_X3_append l dC dI cI cJ cZ cQ t s.heap.size a_theQuestion_letters a_theQuestion_letters_bytes n_theQuestion_letters_bytes v_theQuestion_letters_length v_theQuestion_letters_bytes p_1 (r1, w2, w3) ho4) (cwV 1 hts gX9_quill_X3_append rfl rfl rfl (by decide +kernel) ⟨(Nat.le_of_ble_eq_true rfl), (Nat.le_of_ble_eq_true rfl)⟩) ⟨(kb_pre hK hG hP (kb_D hD rfl) hS hA [2, 3] rfl (by decide)).1, (va_recv hK hP (ci := 3) (q0 := 2) rfl rfl), (kb_pre hK hG hP (kb_D hD rfl) hS hA [2, 3] rfl (by decide)).2⟩ rfl rfl hl.1 rfl (lv_room (Nat.le_of_ble_eq_true rfl)) dX9_quill_8 ⟨Nat.zero_le _, Nat.zero_le _⟩) hP (kb_D hD rfl) hS hA [2, 3] rfl [(false, 0), (false, 1), (true, 0), (true, 1)] (w2 := [oX9 a_th q_theText (.ref a_theQuestion) q_theCastle q_now q_theActs q_theTold q_foresight q_keptMoments q_isKept q_marchWorlds (.long v_theSeed), oX5 a_theQuestion (.ref a_theQuestion_letters) q_theQuestion_stack, oX3 a_theQuestion_letters (.ref a_theQuestion_letters_bytes) (.int w2), aI cI a_theQuestion_letters_bytes n_theQuestion_letters_bytes w3]) rfl (by decide) (fun H locs hP hS => ?_)
  obtain rfl := Option.some.inj hm
  subst hQ
  exact W.iret hx hb hr (fun t ht hW => ⟨⟨_, (), rfl, rfl, kb_h hP ht⟩, hS.F ht⟩) hS.2.2 dX9_quill_11
set_option maxHeartbeats 4000000 in
set_option maxRecDepth 100000 in
theorem c_X9_blot (l : Launch) (dC : Nat → ClassId) (dI : Nat → Nat → Nat) (cI cJ cZ cQ : ClassId) (t sz : Nat) (a_th : Nat) (a_theQuestion : Nat) (a_theQuestion_letters : Nat) (q_theText : Value) (q_theCastle : Value) (q_now : Value) (q_theActs : Value) (q_theTold : Value) (q_foresight : Value) (q_keptMoments : Value) (q_isKept : Value) (q_marchWorlds : Value) (q_theQuestion_stack : Value) (q_theQuestion_letters_bytes : Value) (v_theSeed : Int64) (v_theQuestion_letters_length : Int32) (o : Int32 × Int32) (hm : m_X9_blot v_theQuestion_letters_length = some o) : Met l yX9_blot wsX9_blot { frames := 1, cells := 0, slots := 0, locals := 21 } (va_Pc [.ref a_th] (cP (dC, dI) (kT cI cJ cZ cQ) t sz [oX9 a_th q_theText (.ref a_theQuestion) q_theCastle q_now q_theActs q_theTold q_foresight q_keptMoments q_isKept q_marchWorlds (.long v_theSeed), oX5 a_theQuestion (.ref a_theQuestion_letters) q_theQuestion_stack, oX3 a_theQuestion_letters q_theQuestion_letters_bytes (.int v_theQuestion_letters_length)])) (cQi (dC, dI) (va_A [oX9 a_th q_theText (.ref a_theQuestion) q_theCastle q_now q_theActs q_theTold q_foresight q_keptMoments q_isKept q_marchWorlds (.long v_theSeed), oX5 a_theQuestion (.ref a_theQuestion_letters) q_theQuestion_stack, oX3 a_theQuestion_letters q_theQuestion_letters_bytes (.int v_theQuestion_letters_length)] sz) o.1 [oX9 a_th q_theText (.ref a_theQuestion) q_theCastle q_now q_theActs q_theTold q_foresight q_keptMoments q_isKept q_marchWorlds (.long v_theSeed), oX5 a_theQuestion (.ref a_theQuestion_letters) q_theQuestion_stack, oX3 a_theQuestion_letters q_theQuestion_letters_bytes (.int (o.2))]) 0 0 (va_A [oX9 a_th q_theText (.ref a_theQuestion) q_theCastle q_now q_theActs q_theTold q_foresight q_keptMoments q_isKept q_marchWorlds (.long v_theSeed), oX5 a_theQuestion (.ref a_theQuestion_letters) q_theQuestion_stack, oX3 a_theQuestion_letters q_theQuestion_letters_bytes (.int v_theQuestion_letters_length)] sz) := by
  refine Met.ofW (cc := cX9_blot) (maxL := 1) (ret := (some .int)) (by decide) rfl ?_
  intro p e s m args below meth c s₁ B hml hv
  obtain ⟨rfl, hsz, hP, hK, hD0, hG⟩ := hv
  have hx := B.exec
  have hb := B.bytes
  have hr := B.returns
  have hts := atoms_spec (ws := wsX9_blot) B.pre
  have hown : s.vm.findClass RX9 = some m.cls := findClass_of_methodNamed B.named
  have hlocks := B.notSynchronized
  subst hsz
  have hD := hD0.self (sz := s.heap.size)
  generalize hAe : va_A [oX9 a_th q_theText (.ref a_theQuestion) q_theCastle q_now q_theActs q_theTold q_foresight q_keptMoments q_isKept q_marchWorlds (.long v_theSeed), oX5 a_theQuestion (.ref a_theQuestion_letters) q_theQuestion_stack, oX3 a_theQuestion_letters q_theQuestion_letters_bytes (.int v_theQuestion_letters_length)] s.heap.size = A at hD hG ⊢
  have hA : ∀ q : Nat, s.heap.size ≤ q → A q := fun q h => by rw [← hAe]; exact Or.inr h
  have hS : va_S A s.heap s.heap [] := va_S.rf
  have hl := lv_entry ([.ref a_th]) (n := 1) (Nat.le_of_ble_eq_true rfl)
  rw [lg_entry_eq]
  generalize (lg_sl ([.ref a_th]) ++ List.replicate (1 - (lg_sl ([.ref a_th])).length) Slot.unset).toArray = ls at hl ⊢
  have hl : lv_has ls 1 [(0, .ref a_th)] := hl
  have iX9 : ∀ w ∈ wsX90, w ∈ wsX9_blot := fun _ h => List.mem_cons_of_mem _ (List.mem_append_left _ (List.mem_append_left _ (List.mem_append_right _ h)))
  have iX5 : ∀ w ∈ wsX50, w ∈ wsX9_blot := fun _ h => List.mem_cons_of_mem _ (List.mem_append_left _ (List.mem_append_right _ h))
  have iX3 : ∀ w ∈ wsX30, w ∈ wsX9_blot := fun _ h => List.mem_cons_of_mem _ (List.mem_append_right _ h)
  have f21 := hts (.fieldLink RX9 21 "TrueOnceWeek" "theQuestion" "LTrueOnceWeek$Question;") (by decide +kernel)
  have f104 := va_Nw.use (A := [.ref a_th].toArray) (w := .fieldLinkNest RX9 104 "TrueOnceWeek$Question" "letters" "LTrueOnceWeek$Letters;" "TrueOnceWeek") rfl (hG.1 (RX9, 104, "TrueOnceWeek$Question", "letters", "LTrueOnceWeek$Letters;") (by decide +kernel))
  refine kb_gen (fun Q hQ => ?_)
  unfold m_X9_blot at hm
  refine lv_aload_n hx hb dX9_blot_0 rfl (lv_at hl 0 rfl) ?_
  refine va_get (D := (dC, dI)) (ci := 7) (v := .ref a_theQuestion) (C := RX9) (T := TX9) (N := 11) hx hb hts iX9 hown hK hP 0 rfl rfl 1 (by decide) f21 (fun _ h9 => h9) rfl dX9_blot_1 ?_
  refine va_getN (D := (dC, dI)) (ci := 5) (v := .ref a_theQuestion_letters) (C := RX5) (T := TX5) (N := 2) hx hb hts iX5 hown hK hP 1 rfl rfl 0 (by decide) f104 (fun _ h9 => h9) rfl dX9_blot_4 ?_
  obtain ⟨r1, w2, ho3, hm⟩ := bd2_s hm
  refine kb_calli (Rv := r1) (va_runV (As := []) (rest := []) ⟨hx, hb, hml, hown, hts⟩ (c_X3_empty l dC dI cI cJ cZ cQ t s.heap.size a_theQuestion_letters q_theQuestion_letters_bytes v_theQuestion_letters_length (r1, w2) ho3) (cwV 0 hts gX9_blot_X3_empty rfl rfl rfl (by decide +kernel) ⟨(Nat.le_of_ble_eq_true rfl), (Nat.le_of_ble_eq_true rfl)⟩) ⟨(kb_pre hK hG hP (kb_D hD rfl) hS hA [2] rfl (by decide)).1, (va_recv hK hP (ci := 3) (q0 := 2) rfl rfl), (kb_pre hK hG hP (kb_D hD rfl) hS hA [2] rfl (by decide)).2⟩ rfl rfl hl.1 rfl (lv_room (Nat.le_of_ble_eq_true rfl)) dX9_blot_7 ⟨Nat.zero_le _, Nat.zero_le _⟩) hP (kb_D hD rfl) hS hA [2] rfl [(false, 0), (false, 1), (true, 0)] (w2 := [oX9 a_th q_theText (.ref a_theQuestion) q_theCastle q_now q_theActs q_theTold q_foresight q_keptMoments q_isKept q_marchWorlds (.long v_theSeed), oX5 a_theQuestion (.ref a_theQuestion_letters) q_theQuestion_stack, oX3 a_theQuestion_letters q_theQuestion_letters_bytes (.int w2)]) rfl (by decide) (fun H locs hP hS => ?_)
  obtain rfl := Option.some.inj hm
  subst hQ
  exact W.iret hx hb hr (fun t ht hW => ⟨⟨_, (), rfl, rfl, kb_h hP ht⟩, hS.F ht⟩) hS.2.2 dX9_blot_10
set_option maxHeartbeats 4000000 in
set_option maxRecDepth 100000 in
theorem c_X5_isJoin (l : Launch) (dC : Nat → ClassId) (dI : Nat → Nat → Nat) (cI cJ cZ cQ : ClassId) (t sz : Nat) (p_0 : Int32) (o : Int32) (hm : m_X5_isJoin p_0 = some o) : Met l yX5_isJoin wsX5_isJoin { frames := 0, cells := 0, slots := 0, locals := 0 } (va_Pc [.int p_0] (cP (dC, dI) (kT cI cJ cZ cQ) t sz [])) (cQi (dC, dI) (va_A [] sz) o []) 0 0 (va_A [] sz) := by
  refine Met.ofW (cc := cX5_isJoin) (maxL := 1) (ret := (some .boolean)) (by decide) rfl ?_
  intro p e s m args below meth c s₁ B hml hv
  obtain ⟨rfl, hsz, hP, hK, hD0, hG⟩ := hv
  have hx := B.exec
  have hb := B.bytes
  have hr := B.returns
  have hts := atoms_spec (ws := wsX5_isJoin) B.pre
  have hown : s.vm.findClass RX5 = some m.cls := findClass_of_methodNamed B.named
  have hlocks := B.notSynchronized
  subst hsz
  have hD := hD0.self (sz := s.heap.size)
  generalize hAe : va_A [] s.heap.size = A at hD hG ⊢
  have hA : ∀ q : Nat, s.heap.size ≤ q → A q := fun q h => by rw [← hAe]; exact Or.inr h
  have hS : va_S A s.heap s.heap [] := va_S.rf
  have hl := lv_entry ([.int p_0]) (n := 1) (Nat.le_of_ble_eq_true rfl)
  rw [lg_entry_eq]
  generalize (lg_sl ([.int p_0]) ++ List.replicate (1 - (lg_sl ([.int p_0])).length) Slot.unset).toArray = ls at hl ⊢
  have hl : lv_has ls 1 [(0, .int p_0)] := hl
  refine kb_gen (fun Q hQ => ?_)
  unfold m_X5_isJoin at hm
  refine lv_iload_n hx hb dX5_isJoin_0 rfl (lv_at hl 0 rfl) ?_
  refine lv_bipush (v := (38 : Int32)) hx hb dX5_isJoin_1 (by decide) ?_
  obtain ⟨k18, ek18, hm⟩ := nm_s hm
  have J18 : ∀ (H : Heap) (locs : List Loc) (ls : Array Slot), k18 = some o → va_P (dC, dI) vwCl [] H → va_S A s.heap H locs → lv_has ls 1 [] → W p l e (headSpec wsX5_isJoin { frames := 0, cells := 0, slots := 0, locals := 0 }).room s m [.int p_0].toArray below meth c H locs 0 0 Q (F0 m 18 ls []) := by
    intro  H locs ls hm hP hS hl
    rw [ek18] at hm
    refine lv_iconst (v := (1 : Int32)) hx hb dX5_isJoin_18 (by decide) ?_
    refine lv_goto (tgt := 23) hx hb dX5_isJoin_19 (by decide) ?_
    obtain rfl := Option.some.inj hm
    subst hQ
    exact W.zret hx hb hr rfl (fun t ht hW => ⟨⟨_, (), rfl, rfl, kb_h hP ht⟩, hS.F ht⟩) hS.2.2 dX5_isJoin_23
  refine lv_icmp_eq (tgt := 18) hx hb dX5_isJoin_3 (by decide) (fun c1 => ?_) (fun c1 => ?_)
  · replace hm := ite_t c1 hm
    exact J18  _ _ _ hm hP hS (lv_sub hl [] rfl)
  · replace hm := ite_f c1 hm
    refine lv_iload_n hx hb dX5_isJoin_6 rfl (lv_at hl 0 rfl) ?_
    refine lv_bipush (v := (124 : Int32)) hx hb dX5_isJoin_7 (by decide) ?_
    refine lv_icmp_eq (tgt := 18) hx hb dX5_isJoin_9 (by decide) (fun c2 => ?_) (fun c2 => ?_)
    · replace hm := ite_t c2 hm
      exact J18  _ _ _ hm hP hS (lv_sub hl [] rfl)
    · replace hm := ite_f c2 hm
      refine lv_iload_n hx hb dX5_isJoin_12 rfl (lv_at hl 0 rfl) ?_
      refine lv_bipush (v := (94 : Int32)) hx hb dX5_isJoin_13 (by decide) ?_
      refine lv_icmp_ne (tgt := 22) hx hb dX5_isJoin_15 (by decide) (fun c3 => ?_) (fun c3 => ?_)
      · replace hm := ite_f c3 hm
        refine lv_iconst (v := (0 : Int32)) hx hb dX5_isJoin_22 (by decide) ?_
        obtain rfl := Option.some.inj hm
        subst hQ
        exact W.zret hx hb hr rfl (fun t ht hW => ⟨⟨_, (), rfl, rfl, kb_h hP ht⟩, hS.F ht⟩) hS.2.2 dX5_isJoin_23
      · replace hm := ite_t c3 hm
        exact J18  _ _ _ hm hP hS (lv_sub hl [] rfl)
set_option maxHeartbeats 4000000 in
set_option maxRecDepth 100000 in
theorem c_X5_isSign (l : Launch) (dC : Nat → ClassId) (dI : Nat → Nat → Nat) (cI cJ cZ cQ : ClassId) (t sz : Nat) (p_0 : Int32) (o : Int32) (hm : m_X5_isSign p_0 = some o) : Met l yX5_isSign wsX5_isSign { frames := 1, cells := 0, slots := 0, locals := 20 } (va_Pc [.int p_0] (cP (dC, dI) (kT cI cJ cZ cQ) t sz [])) (cQi (dC, dI) (va_A [] sz) o []) 0 0 (va_A [] sz) := by
  refine Met.ofW (cc := cX5_isSign) (maxL := 1) (ret := (some .boolean)) (by decide) rfl ?_
  intro p e s m args below meth c s₁ B hml hv
  obtain ⟨rfl, hsz, hP, hK, hD0, hG⟩ := hv
  have hx := B.exec
  have hb := B.bytes
  have hr := B.returns
  have hts := atoms_spec (ws := wsX5_isSign) B.pre
  have hown : s.vm.findClass RX5 = some m.cls := findClass_of_methodNamed B.named
  have hlocks := B.notSynchronized
  subst hsz
  have hD := hD0.self (sz := s.heap.size)
  generalize hAe : va_A [] s.heap.size = A at hD hG ⊢
  have hA : ∀ q : Nat, s.heap.size ≤ q → A q := fun q h => by rw [← hAe]; exact Or.inr h
  have hS : va_S A s.heap s.heap [] := va_S.rf
  have hl := lv_entry ([.int p_0]) (n := 1) (Nat.le_of_ble_eq_true rfl)
  rw [lg_entry_eq]
  generalize (lg_sl ([.int p_0]) ++ List.replicate (1 - (lg_sl ([.int p_0])).length) Slot.unset).toArray = ls at hl ⊢
  have hl : lv_has ls 1 [(0, .int p_0)] := hl
  refine kb_gen (fun Q hQ => ?_)
  unfold m_X5_isSign at hm
  refine lv_iload_n hx hb dX5_isSign_0 rfl (lv_at hl 0 rfl) ?_
  refine lv_bipush (v := (110 : Int32)) hx hb dX5_isSign_1 (by decide) ?_
  obtain ⟨k13, ek13, hm⟩ := nm_s hm
  have J13 : ∀ (H : Heap) (locs : List Loc) (ls : Array Slot), k13 = some o → va_P (dC, dI) vwCl [] H → va_S A s.heap H locs → lv_has ls 1 [] → W p l e (headSpec wsX5_isSign { frames := 1, cells := 0, slots := 0, locals := 20 }).room s m [.int p_0].toArray below meth c H locs 0 0 Q (F0 m 13 ls []) := by
    intro  H locs ls hm hP hS hl
    rw [ek13] at hm
    refine lv_iconst (v := (1 : Int32)) hx hb dX5_isSign_13 (by decide) ?_
    refine lv_goto (tgt := 18) hx hb dX5_isSign_14 (by decide) ?_
    obtain rfl := Option.some.inj hm
    subst hQ
    exact W.zret hx hb hr rfl (fun t ht hW => ⟨⟨_, (), rfl, rfl, kb_h hP ht⟩, hS.F ht⟩) hS.2.2 dX5_isSign_18
  refine lv_icmp_eq (tgt := 13) hx hb dX5_isSign_3 (by decide) (fun c1 => ?_) (fun c1 => ?_)
  · replace hm := ite_t c1 hm
    exact J13  _ _ _ hm hP hS (lv_sub hl [] rfl)
  · replace hm := ite_f c1 hm
    refine lv_iload_n hx hb dX5_isSign_6 rfl (lv_at hl 0 rfl) ?_
    obtain ⟨r2, ho3, hm⟩ := bd1_s hm
    refine kb_calli (Rv := r2) (va_runS (As := [.int p_0]) (rest := []) ⟨hx, hb, hml, hown, hts⟩ (c_X5_isJoin l dC dI cI cJ cZ cQ t s.heap.size p_0 (r2) ho3) (va_cwS 1 hts gX5_isSign_X5_isJoin rfl rfl rfl (by decide +kernel) ⟨(Nat.le_of_ble_eq_true rfl), (Nat.le_of_ble_eq_true rfl)⟩) (kb_pre hK hG hP (kb_D hD rfl) hS hA [] rfl (by decide)) rfl rfl hl.1 rfl (lv_room (Nat.le_of_ble_eq_true rfl)) dX5_isSign_7 ⟨Nat.zero_le _, Nat.zero_le _⟩) hP (kb_D hD rfl) hS hA [] rfl [] (w2 := []) rfl (by decide) (fun H locs hP hS => ?_)
    refine lv_if_eq (tgt := 17) hx hb dX5_isSign_10 (by decide) (fun c4 => ?_) (fun c4 => ?_)
    · replace hm := ite_t c4 hm
      refine lv_iconst (v := (0 : Int32)) hx hb dX5_isSign_17 (by decide) ?_
      obtain rfl := Option.some.inj hm
      subst hQ
      exact W.zret hx hb hr rfl (fun t ht hW => ⟨⟨_, (), rfl, rfl, kb_h hP ht⟩, hS.F ht⟩) hS.2.2 dX5_isSign_18
    · replace hm := ite_f c4 hm
      exact J13  _ _ _ hm hP hS (lv_sub hl [] rfl)
set_option maxHeartbeats 4000000 in
set_option maxRecDepth 100000 in
theorem c_X5_simpleOf (l : Launch) (dC : Nat → ClassId) (dI : Nat → Nat → Nat) (cI cJ cZ cQ : ClassId) (t sz : Nat) (p_0 : Int32) (o : Int32) (hm : m_X5_simpleOf p_0 = some o) : Met l yX5_simpleOf wsX5_simpleOf { frames := 0, cells := 0, slots := 0, locals := 0 } (va_Pc [.int p_0] (cP (dC, dI) (kT cI cJ cZ cQ) t sz [])) (cQi (dC, dI) (va_A [] sz) o []) 0 0 (va_A [] sz) := by
  refine Met.ofW (cc := cX5_simpleOf) (maxL := 1) (ret := (some .int)) (by decide) rfl ?_
  intro p e s m args below meth c s₁ B hml hv
  obtain ⟨rfl, hsz, hP, hK, hD0, hG⟩ := hv
  have hx := B.exec
  have hb := B.bytes
  have hr := B.returns
  have hts := atoms_spec (ws := wsX5_simpleOf) B.pre
  have hown : s.vm.findClass RX5 = some m.cls := findClass_of_methodNamed B.named
  have hlocks := B.notSynchronized
  subst hsz
  have hD := hD0.self (sz := s.heap.size)
  generalize hAe : va_A [] s.heap.size = A at hD hG ⊢
  have hA : ∀ q : Nat, s.heap.size ≤ q → A q := fun q h => by rw [← hAe]; exact Or.inr h
  have hS : va_S A s.heap s.heap [] := va_S.rf
  have hl := lv_entry ([.int p_0]) (n := 1) (Nat.le_of_ble_eq_true rfl)
  rw [lg_entry_eq]
  generalize (lg_sl ([.int p_0]) ++ List.replicate (1 - (lg_sl ([.int p_0])).length) Slot.unset).toArray = ls at hl ⊢
  have hl : lv_has ls 1 [(0, .int p_0)] := hl
  refine kb_gen (fun Q hQ => ?_)
  unfold m_X5_simpleOf at hm
  refine lv_iload_n hx hb dX5_simpleOf_0 rfl (lv_at hl 0 rfl) ?_
  refine lv_bipush (v := (97 : Int32)) hx hb dX5_simpleOf_1 (by decide) ?_
  obtain ⟨k17, ek17, hm⟩ := nm_s hm
  have J17 : ∀ (H : Heap) (locs : List Loc) (ls : Array Slot), k17 = some o → va_P (dC, dI) vwCl [] H → va_S A s.heap H locs → lv_has ls 1 [(0, .int p_0)] → W p l e (headSpec wsX5_simpleOf { frames := 0, cells := 0, slots := 0, locals := 0 }).room s m [.int p_0].toArray below meth c H locs 0 0 Q (F0 m 17 ls []) := by
    intro  H locs ls hm hP hS hl
    rw [ek17] at hm
    refine lv_iload_n hx hb dX5_simpleOf_17 rfl (lv_at hl 0 rfl) ?_
    refine lv_bipush (v := (48 : Int32)) hx hb dX5_simpleOf_18 (by decide) ?_
    obtain ⟨k37, ek37, hm⟩ := nm_s hm
    have J37 : ∀ (H : Heap) (locs : List Loc) (ls : Array Slot), k37 = some o → va_P (dC, dI) vwCl [] H → va_S A s.heap H locs → lv_has ls 1 [(0, .int p_0)] → W p l e (headSpec wsX5_simpleOf { frames := 0, cells := 0, slots := 0, locals := 0 }).room s m [.int p_0].toArray below meth c H locs 0 0 Q (F0 m 37 ls []) := by
      intro  H locs ls hm hP hS hl
      rw [ek37] at hm
      refine lv_iload_n hx hb dX5_simpleOf_37 rfl (lv_at hl 0 rfl) ?_
      refine lv_bipush (v := (116 : Int32)) hx hb dX5_simpleOf_38 (by decide) ?_
      refine lv_icmp_ne (tgt := 45) hx hb dX5_simpleOf_40 (by decide) (fun c1 => ?_) (fun c1 => ?_)
      · replace hm := ite_f c1 hm
        refine lv_iload_n hx hb dX5_simpleOf_45 rfl (lv_at hl 0 rfl) ?_
        refine lv_bipush (v := (121 : Int32)) hx hb dX5_simpleOf_46 (by decide) ?_
        refine lv_icmp_ne (tgt := 56) hx hb dX5_simpleOf_48 (by decide) (fun c2 => ?_) (fun c2 => ?_)
        · replace hm := ite_f c2 hm
          refine lv_bipush (v := (-9 : Int32)) hx hb dX5_simpleOf_56 (by decide) ?_
          obtain rfl := Option.some.inj hm
          subst hQ
          exact W.iret hx hb hr (fun t ht hW => ⟨⟨_, (), rfl, rfl, kb_h hP ht⟩, hS.F ht⟩) hS.2.2 dX5_simpleOf_58
        · replace hm := ite_t c2 hm
          refine lv_bipush (v := (18 : Int32)) hx hb dX5_simpleOf_51 (by decide) ?_
          refine lv_goto (tgt := 58) hx hb dX5_simpleOf_53 (by decide) ?_
          obtain rfl := Option.some.inj hm
          subst hQ
          exact W.iret hx hb hr (fun t ht hW => ⟨⟨_, (), rfl, rfl, kb_h hP ht⟩, hS.F ht⟩) hS.2.2 dX5_simpleOf_58
      · replace hm := ite_t c1 hm
        refine lv_iconst (v := (5 : Int32)) hx hb dX5_simpleOf_43 (by decide) ?_
        obtain rfl := Option.some.inj hm
        subst hQ
        exact W.iret hx hb hr (fun t ht hW => ⟨⟨_, (), rfl, rfl, kb_h hP ht⟩, hS.F ht⟩) hS.2.2 dX5_simpleOf_44
    refine lv_icmp_lt (tgt := 37) hx hb dX5_simpleOf_20 (by decide) (fun c3 => ?_) (fun c3 => ?_)
    · replace hm := ite_t c3 hm
      exact J37  _ _ _ hm hP hS (lv_sub hl [0] rfl)
    · replace hm := ite_f c3 hm
      refine lv_iload_n hx hb dX5_simpleOf_23 rfl (lv_at hl 0 rfl) ?_
      refine lv_bipush (v := (54 : Int32)) hx hb dX5_simpleOf_24 (by decide) ?_
      refine lv_icmp_gt (tgt := 37) hx hb dX5_simpleOf_26 (by decide) (fun c4 => ?_) (fun c4 => ?_)
      · replace hm := ite_t c4 hm
        exact J37  _ _ _ hm hP hS (lv_sub hl [0] rfl)
      · replace hm := ite_f c4 hm
        refine lv_bipush (v := (6 : Int32)) hx hb dX5_simpleOf_29 (by decide) ?_
        refine lv_iload_n hx hb dX5_simpleOf_31 rfl (lv_at hl 0 rfl) ?_
        refine lv_iadd hx hb dX5_simpleOf_32 ?_
        refine lv_bipush (v := (48 : Int32)) hx hb dX5_simpleOf_33 (by decide) ?_
        refine lv_isub hx hb dX5_simpleOf_35 ?_
        obtain rfl := Option.some.inj hm
        subst hQ
        exact W.iret hx hb hr (fun t ht hW => ⟨⟨_, (), rfl, rfl, kb_h hP ht⟩, hS.F ht⟩) hS.2.2 dX5_simpleOf_36
  refine lv_icmp_lt (tgt := 17) hx hb dX5_simpleOf_3 (by decide) (fun c5 => ?_) (fun c5 => ?_)
  · replace hm := ite_t c5 hm
    exact J17  _ _ _ hm hP hS (lv_sub hl [0] rfl)
  · replace hm := ite_f c5 hm
    refine lv_iload_n hx hb dX5_simpleOf_6 rfl (lv_at hl 0 rfl) ?_
    refine lv_bipush (v := (101 : Int32)) hx hb dX5_simpleOf_7 (by decide) ?_
    refine lv_icmp_gt (tgt := 17) hx hb dX5_simpleOf_9 (by decide) (fun c6 => ?_) (fun c6 => ?_)
    · replace hm := ite_t c6 hm
      exact J17  _ _ _ hm hP hS (lv_sub hl [0] rfl)
    · replace hm := ite_f c6 hm
      refine lv_iload_n hx hb dX5_simpleOf_12 rfl (lv_at hl 0 rfl) ?_
      refine lv_bipush (v := (97 : Int32)) hx hb dX5_simpleOf_13 (by decide) ?_
      refine lv_isub hx hb dX5_simpleOf_15 ?_
      obtain rfl := Option.some.inj hm
      subst hQ
      exact W.iret hx hb hr (fun t ht hW => ⟨⟨_, (), rfl, rfl, kb_h hP ht⟩, hS.F ht⟩) hS.2.2 dX5_simpleOf_16
set_option maxHeartbeats 4000000 in
set_option maxRecDepth 100000 in
theorem c_X6_factOf (l : Launch) (dC : Nat → ClassId) (dI : Nat → Nat → Nat) (cI cJ cZ cQ : ClassId) (t sz : Nat) (p_0 : Int32) (o : Int32) (hm : m_X6_factOf p_0 = some o) : Met l yX6_factOf wsX6_factOf { frames := 0, cells := 0, slots := 0, locals := 0 } (va_Pc [.int p_0] (cP (dC, dI) (kT cI cJ cZ cQ) t sz [])) (cQi (dC, dI) (va_A [] sz) o []) 0 0 (va_A [] sz) := by
  refine Met.ofW (cc := cX6_factOf) (maxL := 1) (ret := (some .int)) (by decide) rfl ?_
  intro p e s m args below meth c s₁ B hml hv
  obtain ⟨rfl, hsz, hP, hK, hD0, hG⟩ := hv
  have hx := B.exec
  have hb := B.bytes
  have hr := B.returns
  have hts := atoms_spec (ws := wsX6_factOf) B.pre
  have hown : s.vm.findClass RX6 = some m.cls := findClass_of_methodNamed B.named
  have hlocks := B.notSynchronized
  subst hsz
  have hD := hD0.self (sz := s.heap.size)
  generalize hAe : va_A [] s.heap.size = A at hD hG ⊢
  have hA : ∀ q : Nat, s.heap.size ≤ q → A q := fun q h => by rw [← hAe]; exact Or.inr h
  have hS : va_S A s.heap s.heap [] := va_S.rf
  have hl := lv_entry ([.int p_0]) (n := 1) (Nat.le_of_ble_eq_true rfl)
  rw [lg_entry_eq]
  generalize (lg_sl ([.int p_0]) ++ List.replicate (1 - (lg_sl ([.int p_0])).length) Slot.unset).toArray = ls at hl ⊢
  have hl : lv_has ls 1 [(0, .int p_0)] := hl
  refine kb_gen (fun Q hQ => ?_)
  unfold m_X6_factOf at hm
  refine lv_iload_n hx hb dX6_factOf_0 rfl (lv_at hl 0 rfl) ?_
  refine lv_iconst (v := (5 : Int32)) hx hb dX6_factOf_1 (by decide) ?_
  refine lv_icmp_ge (tgt := 7) hx hb dX6_factOf_2 (by decide) (fun c1 => ?_) (fun c1 => ?_)
  · replace hm := ite_t c1 hm
    refine lv_iload_n hx hb dX6_factOf_7 rfl (lv_at hl 0 rfl) ?_
    refine lv_bipush (v := (13 : Int32)) hx hb dX6_factOf_8 (by decide) ?_
    obtain ⟨k26, ek26, hm⟩ := nm_s hm
    have J26 : ∀ (H : Heap) (locs : List Loc) (ls : Array Slot), k26 = some o → va_P (dC, dI) vwCl [] H → va_S A s.heap H locs → lv_has ls 1 [] → W p l e (headSpec wsX6_factOf { frames := 0, cells := 0, slots := 0, locals := 0 }).room s m [.int p_0].toArray below meth c H locs 0 0 Q (F0 m 26 ls []) := by
      intro  H locs ls hm hP hS hl
      rw [ek26] at hm
      refine lv_bipush (v := (-9 : Int32)) hx hb dX6_factOf_26 (by decide) ?_
      obtain rfl := Option.some.inj hm
      subst hQ
      exact W.iret hx hb hr (fun t ht hW => ⟨⟨_, (), rfl, rfl, kb_h hP ht⟩, hS.F ht⟩) hS.2.2 dX6_factOf_28
    refine lv_icmp_lt (tgt := 26) hx hb dX6_factOf_10 (by decide) (fun c2 => ?_) (fun c2 => ?_)
    · replace hm := ite_t c2 hm
      exact J26  _ _ _ hm hP hS (lv_sub hl [] rfl)
    · replace hm := ite_f c2 hm
      refine lv_iload_n hx hb dX6_factOf_13 rfl (lv_at hl 0 rfl) ?_
      refine lv_bipush (v := (18 : Int32)) hx hb dX6_factOf_14 (by decide) ?_
      refine lv_icmp_ge (tgt := 26) hx hb dX6_factOf_16 (by decide) (fun c3 => ?_) (fun c3 => ?_)
      · replace hm := ite_t c3 hm
        exact J26  _ _ _ hm hP hS (lv_sub hl [] rfl)
      · replace hm := ite_f c3 hm
        refine lv_iload_n hx hb dX6_factOf_19 rfl (lv_at hl 0 rfl) ?_
        refine lv_bipush (v := (13 : Int32)) hx hb dX6_factOf_20 (by decide) ?_
        refine lv_isub hx hb dX6_factOf_22 ?_
        refine lv_goto (tgt := 28) hx hb dX6_factOf_23 (by decide) ?_
        obtain rfl := Option.some.inj hm
        subst hQ
        exact W.iret hx hb hr (fun t ht hW => ⟨⟨_, (), rfl, rfl, kb_h hP ht⟩, hS.F ht⟩) hS.2.2 dX6_factOf_28
  · replace hm := ite_f c1 hm
    refine lv_iload_n hx hb dX6_factOf_5 rfl (lv_at hl 0 rfl) ?_
    obtain rfl := Option.some.inj hm
    subst hQ
    exact W.iret hx hb hr (fun t ht hW => ⟨⟨_, (), rfl, rfl, kb_h hP ht⟩, hS.F ht⟩) hS.2.2 dX6_factOf_6
set_option maxHeartbeats 4000000 in
set_option maxRecDepth 100000 in
theorem c_X1_hasFact (l : Launch) (dC : Nat → ClassId) (dI : Nat → Nat → Nat) (cI cJ cZ cQ : ClassId) (t sz : Nat) (a_th : Nat) (v_facts : Int32) (v_so : Int32) (v_common : Int32) (v_cases : Int32) (v_firstTrueDay : Int32) (p_1 : Int32) (o : Int32) (hm : m_X1_hasFact p_1 v_facts = some o) : Met l yX1_hasFact wsX1_hasFact { frames := 0, cells := 0, slots := 0, locals := 0 } (va_Pc [.ref a_th, .int p_1] (cP (dC, dI) (kT cI cJ cZ cQ) t sz [oX1 a_th (.int v_facts) (.int v_so) (.int v_common) (.int v_cases) (.int v_firstTrueDay)])) (cQi (dC, dI) (va_A [oX1 a_th (.int v_facts) (.int v_so) (.int v_common) (.int v_cases) (.int v_firstTrueDay)] sz) o [oX1 a_th (.int v_facts) (.int v_so) (.int v_common) (.int v_cases) (.int v_firstTrueDay)]) 0 0 (va_A [oX1 a_th (.int v_facts) (.int v_so) (.int v_common) (.int v_cases) (.int v_firstTrueDay)] sz) := by
  refine Met.ofW (cc := cX1_hasFact) (maxL := 2) (ret := (some .boolean)) (by decide) rfl ?_
  intro p e s m args below meth c s₁ B hml hv
  obtain ⟨rfl, hsz, hP, hK, hD0, hG⟩ := hv
  have hx := B.exec
  have hb := B.bytes
  have hr := B.returns
  have hts := atoms_spec (ws := wsX1_hasFact) B.pre
  have hown : s.vm.findClass RX1 = some m.cls := findClass_of_methodNamed B.named
  have hlocks := B.notSynchronized
  subst hsz
  have hD := hD0.self (sz := s.heap.size)
  generalize hAe : va_A [oX1 a_th (.int v_facts) (.int v_so) (.int v_common) (.int v_cases) (.int v_firstTrueDay)] s.heap.size = A at hD hG ⊢
  have hA : ∀ q : Nat, s.heap.size ≤ q → A q := fun q h => by rw [← hAe]; exact Or.inr h
  have hS : va_S A s.heap s.heap [] := va_S.rf
  have hl := lv_entry ([.ref a_th, .int p_1]) (n := 2) (Nat.le_of_ble_eq_true rfl)
  rw [lg_entry_eq]
  generalize (lg_sl ([.ref a_th, .int p_1]) ++ List.replicate (2 - (lg_sl ([.ref a_th, .int p_1])).length) Slot.unset).toArray = ls at hl ⊢
  have hl : lv_has ls 2 [(0, .ref a_th), (1, .int p_1)] := hl
  have iX1 : ∀ w ∈ wsX10, w ∈ wsX1_hasFact := fun _ h => List.mem_cons_of_mem _ (List.mem_append_right _ h)
  have f37 := hts (.fieldLink RX1 37 "TrueOnceWeek$Castle" "facts" "I") (by decide +kernel)
  refine kb_gen (fun Q hQ => ?_)
  unfold m_X1_hasFact at hm
  refine lv_iload_n hx hb dX1_hasFact_0 rfl (lv_at hl 1 rfl) ?_
  obtain ⟨k16, ek16, hm⟩ := nm_s hm
  have J16 : ∀ (H : Heap) (locs : List Loc) (ls : Array Slot), k16 = some o → va_P (dC, dI) vwCl [oX1 a_th (.int v_facts) (.int v_so) (.int v_common) (.int v_cases) (.int v_firstTrueDay)] H → va_S A s.heap H locs → lv_has ls 2 [] → W p l e (headSpec wsX1_hasFact { frames := 0, cells := 0, slots := 0, locals := 0 }).room s m [.ref a_th, .int p_1].toArray below meth c H locs 0 0 Q (F0 m 16 ls []) := by
    intro  H locs ls hm hP hS hl
    rw [ek16] at hm
    refine lv_iconst (v := (0 : Int32)) hx hb dX1_hasFact_16 (by decide) ?_
    obtain rfl := Option.some.inj hm
    subst hQ
    exact W.zret hx hb hr rfl (fun t ht hW => ⟨⟨_, (), rfl, rfl, kb_h hP ht⟩, hS.F ht⟩) hS.2.2 dX1_hasFact_17
  refine lv_if_lt (tgt := 16) hx hb dX1_hasFact_1 (by decide) (fun c1 => ?_) (fun c1 => ?_)
  · replace hm := ite_t c1 hm
    exact J16  _ _ _ hm hP hS (lv_sub hl [] rfl)
  · replace hm := ite_f c1 hm
    refine lv_iload_n hx hb dX1_hasFact_4 rfl (lv_at hl 1 rfl) ?_
    refine lv_aload_n hx hb dX1_hasFact_5 rfl (lv_at hl 0 rfl) ?_
    refine va_get (D := (dC, dI)) (ci := 1) (v := .int v_facts) (C := RX1) (T := TX1) (N := 5) hx hb hts iX1 hown hK hP 0 rfl rfl 0 (by decide) f37 (fun _ h9 => h9) rfl dX1_hasFact_6 ?_
    refine lv_icmp_ge (tgt := 16) hx hb dX1_hasFact_9 (by decide) (fun c2 => ?_) (fun c2 => ?_)
    · replace hm := ite_t c2 hm
      exact J16  _ _ _ hm hP hS (lv_sub hl [] rfl)
    · replace hm := ite_f c2 hm
      refine lv_iconst (v := (1 : Int32)) hx hb dX1_hasFact_12 (by decide) ?_
      refine lv_goto (tgt := 17) hx hb dX1_hasFact_13 (by decide) ?_
      obtain rfl := Option.some.inj hm
      subst hQ
      exact W.zret hx hb hr rfl (fun t ht hW => ⟨⟨_, (), rfl, rfl, kb_h hP ht⟩, hS.F ht⟩) hS.2.2 dX1_hasFact_17
set_option maxHeartbeats 4000000 in
set_option maxRecDepth 100000 in
theorem c_X1_hasSimple (l : Launch) (dC : Nat → ClassId) (dI : Nat → Nat → Nat) (cI cJ cZ cQ : ClassId) (t sz : Nat) (a_th : Nat) (v_facts : Int32) (v_so : Int32) (v_common : Int32) (v_cases : Int32) (v_firstTrueDay : Int32) (p_1 : Int32) (o : Int32) (hm : m_X1_hasSimple p_1 v_facts = some o) : Met l yX1_hasSimple wsX1_hasSimple { frames := 1, cells := 0, slots := 0, locals := 21 } (va_Pc [.ref a_th, .int p_1] (cP (dC, dI) (kT cI cJ cZ cQ) t sz [oX1 a_th (.int v_facts) (.int v_so) (.int v_common) (.int v_cases) (.int v_firstTrueDay)])) (cQi (dC, dI) (va_A [oX1 a_th (.int v_facts) (.int v_so) (.int v_common) (.int v_cases) (.int v_firstTrueDay)] sz) o [oX1 a_th (.int v_facts) (.int v_so) (.int v_common) (.int v_cases) (.int v_firstTrueDay)]) 0 0 (va_A [oX1 a_th (.int v_facts) (.int v_so) (.int v_common) (.int v_cases) (.int v_firstTrueDay)] sz) := by
  refine Met.ofW (cc := cX1_hasSimple) (maxL := 3) (ret := (some .boolean)) (by decide) rfl ?_
  intro p e s m args below meth c s₁ B hml hv
  obtain ⟨rfl, hsz, hP, hK, hD0, hG⟩ := hv
  have hx := B.exec
  have hb := B.bytes
  have hr := B.returns
  have hts := atoms_spec (ws := wsX1_hasSimple) B.pre
  have hown : s.vm.findClass RX1 = some m.cls := findClass_of_methodNamed B.named
  have hlocks := B.notSynchronized
  subst hsz
  have hD := hD0.self (sz := s.heap.size)
  generalize hAe : va_A [oX1 a_th (.int v_facts) (.int v_so) (.int v_common) (.int v_cases) (.int v_firstTrueDay)] s.heap.size = A at hD hG ⊢
  have hA : ∀ q : Nat, s.heap.size ≤ q → A q := fun q h => by rw [← hAe]; exact Or.inr h
  have hS : va_S A s.heap s.heap [] := va_S.rf
  have hl := lv_entry ([.ref a_th, .int p_1]) (n := 3) (Nat.le_of_ble_eq_true rfl)
  rw [lg_entry_eq]
  generalize (lg_sl ([.ref a_th, .int p_1]) ++ List.replicate (3 - (lg_sl ([.ref a_th, .int p_1])).length) Slot.unset).toArray = ls at hl ⊢
  have hl : lv_has ls 3 [(0, .ref a_th), (1, .int p_1)] := hl
  have iX1 : ∀ w ∈ wsX10, w ∈ wsX1_hasSimple := fun _ h => List.mem_cons_of_mem _ (List.mem_append_right _ h)
  refine kb_gen (fun Q hQ => ?_)
  unfold m_X1_hasSimple at hm
  refine lv_iload_n hx hb dX1_hasSimple_0 rfl (lv_at hl 1 rfl) ?_
  refine lv_if_lt (tgt := 10) hx hb dX1_hasSimple_1 (by decide) (fun c1 => ?_) (fun c1 => ?_)
  · replace hm := ite_t c1 hm
    refine lv_iconst (v := (0 : Int32)) hx hb dX1_hasSimple_10 (by decide) ?_
    obtain rfl := Option.some.inj hm
    subst hQ
    exact W.zret hx hb hr rfl (fun t ht hW => ⟨⟨_, (), rfl, rfl, kb_h hP ht⟩, hS.F ht⟩) hS.2.2 dX1_hasSimple_11
  · replace hm := ite_f c1 hm
    refine lv_iload_n hx hb dX1_hasSimple_4 rfl (lv_at hl 1 rfl) ?_
    refine lv_bipush (v := (19 : Int32)) hx hb dX1_hasSimple_5 (by decide) ?_
    refine lv_icmp_lt (tgt := 12) hx hb dX1_hasSimple_7 (by decide) (fun c2 => ?_) (fun c2 => ?_)
    · replace hm := ite_t c2 hm
      refine lv_iload_n hx hb dX1_hasSimple_12 rfl (lv_at hl 1 rfl) ?_
      obtain ⟨r3, ho4, hm⟩ := bd1_s hm
      refine kb_calli (Rv := r3) (va_runS (As := [.int p_1]) (rest := []) ⟨hx, hb, hml, hown, hts⟩ (c_X6_factOf l dC dI cI cJ cZ cQ t s.heap.size p_1 (r3) ho4) (va_cwS 1 hts gX1_hasSimple_X6_factOf rfl rfl rfl (by decide +kernel) ⟨(Nat.le_of_ble_eq_true rfl), (Nat.le_of_ble_eq_true rfl)⟩) (kb_pre hK hG hP (kb_D hD rfl) hS hA [] rfl (by decide)) rfl rfl hl.1 rfl (lv_room (Nat.le_of_ble_eq_true rfl)) dX1_hasSimple_13 ⟨Nat.zero_le _, Nat.zero_le _⟩) hP (kb_D hD rfl) hS hA [] rfl [(false, 0)] (w2 := [oX1 a_th (.int v_facts) (.int v_so) (.int v_common) (.int v_cases) (.int v_firstTrueDay)]) rfl (by decide) (fun H locs hP hS => ?_)
      refine lv_istore_n (lv' := [(2, .int r3), (0, .ref a_th), (1, .int p_1)]) hx hb dX1_hasSimple_16 rfl hl (by decide) rfl (fun ls hl => ?_)
      refine lv_iload_n hx hb dX1_hasSimple_17 rfl (lv_at hl 0 rfl) ?_
      refine lv_bipush (v := (-9 : Int32)) hx hb dX1_hasSimple_18 (by decide) ?_
      obtain ⟨k31, ek31, hm⟩ := nm_s hm
      have J31 : ∀ (H : Heap) (locs : List Loc) (ls : Array Slot), k31 = some o → va_P (dC, dI) vwCl [oX1 a_th (.int v_facts) (.int v_so) (.int v_common) (.int v_cases) (.int v_firstTrueDay)] H → va_S A s.heap H locs → lv_has ls 3 [] → W p l e (headSpec wsX1_hasSimple { frames := 1, cells := 0, slots := 0, locals := 21 }).room s m [.ref a_th, .int p_1].toArray below meth c H locs 0 0 Q (F0 m 31 ls []) := by
        intro  H locs ls hm hP hS hl
        rw [ek31] at hm
        refine lv_iconst (v := (1 : Int32)) hx hb dX1_hasSimple_31 (by decide) ?_
        refine lv_goto (tgt := 36) hx hb dX1_hasSimple_32 (by decide) ?_
        obtain rfl := Option.some.inj hm
        subst hQ
        exact W.zret hx hb hr rfl (fun t ht hW => ⟨⟨_, (), rfl, rfl, kb_h hP ht⟩, hS.F ht⟩) hS.2.2 dX1_hasSimple_36
      refine lv_icmp_eq (tgt := 31) hx hb dX1_hasSimple_20 (by decide) (fun c5 => ?_) (fun c5 => ?_)
      · replace hm := ite_t c5 hm
        exact J31  _ _ _ hm hP hS (lv_sub hl [] rfl)
      · replace hm := ite_f c5 hm
        refine lv_aload_n hx hb dX1_hasSimple_23 rfl (lv_at hl 1 rfl) ?_
        refine lv_iload_n hx hb dX1_hasSimple_24 rfl (lv_at hl 0 rfl) ?_
        obtain ⟨r6, ho7, hm⟩ := bd1_s hm
        refine kb_calli (Rv := r6) (va_runV (As := [.int r3]) (rest := []) ⟨hx, hb, hml, hown, hts⟩ (c_X1_hasFact l dC dI cI cJ cZ cQ t H.size a_th v_facts v_so v_common v_cases v_firstTrueDay r3 (r6) ho7) (cwV 1 hts gX1_hasSimple_X1_hasFact rfl rfl rfl (by decide +kernel) ⟨(Nat.le_of_ble_eq_true rfl), (Nat.le_of_ble_eq_true rfl)⟩) ⟨(kb_pre hK hG hP (kb_D hD rfl) hS hA [0] rfl (by decide)).1, (va_recv hK hP (ci := 1) (q0 := 0) rfl rfl), (kb_pre hK hG hP (kb_D hD rfl) hS hA [0] rfl (by decide)).2⟩ rfl rfl hl.1 rfl (lv_room (Nat.le_of_ble_eq_true rfl)) dX1_hasSimple_25 ⟨Nat.zero_le _, Nat.zero_le _⟩) hP (kb_D hD rfl) hS hA [0] rfl [(true, 0)] (w2 := [oX1 a_th (.int v_facts) (.int v_so) (.int v_common) (.int v_cases) (.int v_firstTrueDay)]) rfl (by decide) (fun H locs hP hS => ?_)
        refine lv_if_eq (tgt := 35) hx hb dX1_hasSimple_28 (by decide) (fun c8 => ?_) (fun c8 => ?_)
        · replace hm := ite_t c8 hm
          refine lv_iconst (v := (0 : Int32)) hx hb dX1_hasSimple_35 (by decide) ?_
          obtain rfl := Option.some.inj hm
          subst hQ
          exact W.zret hx hb hr rfl (fun t ht hW => ⟨⟨_, (), rfl, rfl, kb_h hP ht⟩, hS.F ht⟩) hS.2.2 dX1_hasSimple_36
        · replace hm := ite_f c8 hm
          exact J31  _ _ _ hm hP hS (lv_sub hl [] rfl)
    · replace hm := ite_f c2 hm
      refine lv_iconst (v := (0 : Int32)) hx hb dX1_hasSimple_10 (by decide) ?_
      obtain rfl := Option.some.inj hm
      subst hQ
      exact W.zret hx hb hr rfl (fun t ht hW => ⟨⟨_, (), rfl, rfl, kb_h hP ht⟩, hS.F ht⟩) hS.2.2 dX1_hasSimple_11
set_option maxHeartbeats 4000000 in
set_option maxRecDepth 100000 in
theorem c_X5_firstFault (l : Launch) (dC : Nat → ClassId) (dI : Nat → Nat → Nat) (cI cJ cZ cQ : ClassId) (t sz : Nat) (a_th : Nat) (a_letters : Nat) (a_letters_bytes : Nat) (a_p1 : Nat) (n_letters_bytes : Nat) (q_stack : Value) (v_letters_length : Int32) (v_letters_bytes : (Nat → Int32)) (v_p1_facts : Int32) (v_p1_so : Int32) (v_p1_common : Int32) (v_p1_cases : Int32) (v_p1_firstTrueDay : Int32) (o : Int32) (hm : m_X5_firstFault n_letters_bytes v_letters_length v_letters_bytes v_p1_facts = some o) : Met l yX5_firstFault wsX5_firstFault { frames := 2, cells := 0, slots := 0, locals := 43 } (va_Pc [.ref a_th, .ref a_p1] (cP (dC, dI) (kT cI cJ cZ cQ) t sz [oX5 a_th (.ref a_letters) q_stack, oX3 a_letters (.ref a_letters_bytes) (.int v_letters_length), aI cI a_letters_bytes n_letters_bytes v_letters_bytes, oX1 a_p1 (.int v_p1_facts) (.int v_p1_so) (.int v_p1_common) (.int v_p1_cases) (.int v_p1_firstTrueDay)])) (cQi (dC, dI) (va_A [oX5 a_th (.ref a_letters) q_stack, oX3 a_letters (.ref a_letters_bytes) (.int v_letters_length), aI cI a_letters_bytes n_letters_bytes v_letters_bytes, oX1 a_p1 (.int v_p1_facts) (.int v_p1_so) (.int v_p1_common) (.int v_p1_cases) (.int v_p1_firstTrueDay)] sz) o [oX5 a_th (.ref a_letters) q_stack, oX3 a_letters (.ref a_letters_bytes) (.int v_letters_length), aI cI a_letters_bytes n_letters_bytes v_letters_bytes, oX1 a_p1 (.int v_p1_facts) (.int v_p1_so) (.int v_p1_common) (.int v_p1_cases) (.int v_p1_firstTrueDay)]) 0 0 (va_A [oX5 a_th (.ref a_letters) q_stack, oX3 a_letters (.ref a_letters_bytes) (.int v_letters_length), aI cI a_letters_bytes n_letters_bytes v_letters_bytes, oX1 a_p1 (.int v_p1_facts) (.int v_p1_so) (.int v_p1_common) (.int v_p1_cases) (.int v_p1_firstTrueDay)] sz) := by
  refine Met.ofW (cc := cX5_firstFault) (maxL := 5) (ret := (some .int)) (by decide) rfl ?_
  intro p e s m args below meth c s₁ B hml hv
  obtain ⟨rfl, hsz, hP, hK, hD0, hG⟩ := hv
  have hx := B.exec
  have hb := B.bytes
  have hr := B.returns
  have hts := atoms_spec (ws := wsX5_firstFault) B.pre
  have hown : s.vm.findClass RX5 = some m.cls := findClass_of_methodNamed B.named
  have hlocks := B.notSynchronized
  subst hsz
  have hD := hD0.self (sz := s.heap.size)
  generalize hAe : va_A [oX5 a_th (.ref a_letters) q_stack, oX3 a_letters (.ref a_letters_bytes) (.int v_letters_length), aI cI a_letters_bytes n_letters_bytes v_letters_bytes, oX1 a_p1 (.int v_p1_facts) (.int v_p1_so) (.int v_p1_common) (.int v_p1_cases) (.int v_p1_firstTrueDay)] s.heap.size = A at hD hG ⊢
  have hA : ∀ q : Nat, s.heap.size ≤ q → A q := fun q h => by rw [← hAe]; exact Or.inr h
  have hS : va_S A s.heap s.heap [] := va_S.rf
  have hl := lv_entry ([.ref a_th, .ref a_p1]) (n := 5) (Nat.le_of_ble_eq_true rfl)
  rw [lg_entry_eq]
  generalize (lg_sl ([.ref a_th, .ref a_p1]) ++ List.replicate (5 - (lg_sl ([.ref a_th, .ref a_p1])).length) Slot.unset).toArray = ls at hl ⊢
  have hl : lv_has ls 5 [(0, .ref a_th), (1, .ref a_p1)] := hl
  have iX5 : ∀ w ∈ wsX50, w ∈ wsX5_firstFault := fun _ h => List.mem_cons_of_mem _ (List.mem_append_left _ (List.mem_append_left _ (List.mem_append_right _ h)))
  have iX3 : ∀ w ∈ wsX30, w ∈ wsX5_firstFault := fun _ h => List.mem_cons_of_mem _ (List.mem_append_left _ (List.mem_append_right _ h))
  have iX1 : ∀ w ∈ wsX10, w ∈ wsX5_firstFault := fun _ h => List.mem_cons_of_mem _ (List.mem_append_right _ h)
  have f14 := hts (.fieldLink RX5 14 "TrueOnceWeek$Question" "letters" "LTrueOnceWeek$Letters;") (by decide +kernel)
  have f24 := va_Nw.use (A := [.ref a_th, .ref a_p1].toArray) (w := .fieldLinkNest RX5 24 "TrueOnceWeek$Letters" "length" "I" "TrueOnceWeek") rfl (hG.1 (RX5, 24, "TrueOnceWeek$Letters", "length", "I") (by decide +kernel))
  refine kb_gen (fun Q hQ => ?_)
  unfold m_X5_firstFault at hm
  refine lv_iconst (v := (1 : Int32)) hx hb dX5_firstFault_0 (by decide) ?_
  refine lv_istore_n (lv' := [(2, .int (1 : Int32)), (0, .ref a_th), (1, .ref a_p1)]) hx hb dX5_firstFault_1 rfl hl (by decide) rfl (fun ls hl => ?_)
  refine lv_iconst (v := (0 : Int32)) hx hb dX5_firstFault_2 (by decide) ?_
  refine lv_istore_n (lv' := [(3, .int (0 : Int32)), (2, .int (1 : Int32)), (0, .ref a_th), (1, .ref a_p1)]) hx hb dX5_firstFault_3 rfl hl (by decide) rfl (fun ls hl => ?_)
  have lp4 : ∀ (n4 : Nat) (x1 : Int32) (x2 : Int32) (k4 : Int32 → Option (Int32)) (H : Heap) (locs : List Loc) (ls : Array Slot), L_X5_firstFault_4 v_letters_length v_letters_bytes v_p1_facts n_letters_bytes n4 x1 x2 k4 = some o → (∀ (x3 : Int32) (H : Heap) (locs : List Loc) (ls : Array Slot), k4 x3 = some o → va_P (dC, dI) vwCl [oX5 a_th (.ref a_letters) q_stack, oX3 a_letters (.ref a_letters_bytes) (.int v_letters_length), aI cI a_letters_bytes n_letters_bytes v_letters_bytes, oX1 a_p1 (.int v_p1_facts) (.int v_p1_so) (.int v_p1_common) (.int v_p1_cases) (.int v_p1_firstTrueDay)] H → va_S A s.heap H locs → lv_has ls 5 [(0, .ref a_th), (2, .int x3)] → W p l e (headSpec wsX5_firstFault { frames := 2, cells := 0, slots := 0, locals := 43 }).room s m [.ref a_th, .ref a_p1].toArray below meth c H locs 0 0 Q (F0 m 81 ls [])) → va_P (dC, dI) vwCl [oX5 a_th (.ref a_letters) q_stack, oX3 a_letters (.ref a_letters_bytes) (.int v_letters_length), aI cI a_letters_bytes n_letters_bytes v_letters_bytes, oX1 a_p1 (.int v_p1_facts) (.int v_p1_so) (.int v_p1_common) (.int v_p1_cases) (.int v_p1_firstTrueDay)] H → va_S A s.heap H locs → lv_has ls 5 [(0, .ref a_th), (1, .ref a_p1), (2, .int x1), (3, .int x2)] → W p l e (headSpec wsX5_firstFault { frames := 2, cells := 0, slots := 0, locals := 43 }).room s m [.ref a_th, .ref a_p1].toArray below meth c H locs 0 0 Q (F0 m 4 ls []) := by
    intro n4
    induction n4 with
    | zero =>
      intro x1 x2 k4 H locs ls hm
      cases (show (none : Option (Int32)) = some o from hm)
    | succ n4 ih4 =>
      intro x1 x2 k4 H locs ls hm hk4 hP hS hl
      rw [L_X5_firstFault_4.eq_2] at hm
      refine lv_iload_n hx hb dX5_firstFault_4 rfl (lv_at hl 3 rfl) ?_
      refine lv_aload_n hx hb dX5_firstFault_5 rfl (lv_at hl 0 rfl) ?_
      refine va_get (D := (dC, dI)) (ci := 5) (v := .ref a_letters) (C := RX5) (T := TX5) (N := 2) hx hb hts iX5 hown hK hP 0 rfl rfl 0 (by decide) f14 (fun _ h9 => h9) rfl dX5_firstFault_6 ?_
      refine va_getN (D := (dC, dI)) (ci := 3) (v := .int v_letters_length) (C := RX3) (T := TX3) (N := 2) hx hb hts iX3 hown hK hP 1 rfl rfl 1 (by decide) f24 (fun _ h9 => h9) rfl dX5_firstFault_9 ?_
      refine lv_icmp_ge (tgt := 81) hx hb dX5_firstFault_12 (by decide) (fun c4 => ?_) (fun c4 => ?_)
      · replace hm := ite_t c4 hm
        exact hk4 x1 _ _ _ hm hP hS (lv_sub hl [0, 2] rfl)
      · replace hm := ite_f c4 hm
        refine lv_aload_n hx hb dX5_firstFault_15 rfl (lv_at hl 0 rfl) ?_
        refine va_get (D := (dC, dI)) (ci := 5) (v := .ref a_letters) (C := RX5) (T := TX5) (N := 2) hx hb hts iX5 hown hK hP 0 rfl rfl 0 (by decide) f14 (fun _ h9 => h9) rfl dX5_firstFault_16 ?_
        refine lv_iload_n hx hb dX5_firstFault_19 rfl (lv_at hl 3 rfl) ?_
        obtain ⟨r5, ho6, hm⟩ := bd1_s hm
        refine kb_calli (Rv := r5) (va_runV (As := [.int x2]) (rest := []) ⟨hx, hb, hml, hown, hts⟩ (c_X3_at l dC dI cI cJ cZ cQ t H.size a_letters a_letters_bytes n_letters_bytes v_letters_length v_letters_bytes x2 (r5) ho6) (cwV 1 hts gX5_firstFault_X3_at rfl rfl rfl (by decide +kernel) ⟨(Nat.le_of_ble_eq_true rfl), (Nat.le_of_ble_eq_true rfl)⟩) ⟨(kb_pre hK hG hP (kb_D hD rfl) hS hA [1, 2] rfl (by decide)).1, (va_recv hK hP (ci := 3) (q0 := 1) rfl rfl), (kb_pre hK hG hP (kb_D hD rfl) hS hA [1, 2] rfl (by decide)).2⟩ rfl rfl hl.1 rfl (lv_room (Nat.le_of_ble_eq_true rfl)) dX5_firstFault_20 ⟨Nat.zero_le _, Nat.zero_le _⟩) hP (kb_D hD rfl) hS hA [1, 2] rfl [(false, 0), (true, 0), (true, 1), (false, 3)] (w2 := [oX5 a_th (.ref a_letters) q_stack, oX3 a_letters (.ref a_letters_bytes) (.int v_letters_length), aI cI a_letters_bytes n_letters_bytes v_letters_bytes, oX1 a_p1 (.int v_p1_facts) (.int v_p1_so) (.int v_p1_common) (.int v_p1_cases) (.int v_p1_firstTrueDay)]) rfl (by decide) (fun H locs hP hS => ?_)
        refine lv_istore (lv' := [(4, .int r5), (0, .ref a_th), (1, .ref a_p1), (2, .int x1), (3, .int x2)]) hx hb dX5_firstFault_23 hl (by decide) rfl (fun ls hl => ?_)
        refine lv_iload_n hx hb dX5_firstFault_25 rfl (lv_at hl 3 rfl) ?_
        refine lv_if_eq (tgt := 49) hx hb dX5_firstFault_26 (by decide) (fun c7 => ?_) (fun c7 => ?_)
        · replace hm := ite_t c7 hm
          refine lv_iload_n hx hb dX5_firstFault_49 rfl (lv_at hl 4 rfl) ?_
          obtain rfl := Option.some.inj hm
          subst hQ
          exact W.iret hx hb hr (fun t ht hW => ⟨⟨_, (), rfl, rfl, kb_h hP ht⟩, hS.F ht⟩) hS.2.2 dX5_firstFault_50
        · replace hm := ite_f c7 hm
          refine lv_iload hx hb dX5_firstFault_29 (lv_at hl 0 rfl) ?_
          obtain ⟨r8, ho9, hm⟩ := bd1_s hm
          refine kb_calli (Rv := r8) (va_runS (As := [.int r5]) (rest := []) ⟨hx, hb, hml, hown, hts⟩ (c_X5_isSign l dC dI cI cJ cZ cQ t H.size r5 (r8) ho9) (va_cwS 1 hts gX5_firstFault_X5_isSign rfl rfl rfl (by decide +kernel) ⟨(Nat.le_of_ble_eq_true rfl), (Nat.le_of_ble_eq_true rfl)⟩) (kb_pre hK hG hP (kb_D hD rfl) hS hA [] rfl (by decide)) rfl rfl hl.1 rfl (lv_room (Nat.le_of_ble_eq_true rfl)) dX5_firstFault_31 ⟨Nat.zero_le _, Nat.zero_le _⟩) hP (kb_D hD rfl) hS hA [] rfl [(false, 0), (false, 1), (false, 2), (false, 3)] (w2 := [oX5 a_th (.ref a_letters) q_stack, oX3 a_letters (.ref a_letters_bytes) (.int v_letters_length), aI cI a_letters_bytes n_letters_bytes v_letters_bytes, oX1 a_p1 (.int v_p1_facts) (.int v_p1_so) (.int v_p1_common) (.int v_p1_cases) (.int v_p1_firstTrueDay)]) rfl (by decide) (fun H locs hP hS => ?_)
          obtain ⟨k51, ek51, hm⟩ := nm_s hm
          have J51 : ∀ (H : Heap) (locs : List Loc) (ls : Array Slot), k51 = some o → va_P (dC, dI) vwCl [oX5 a_th (.ref a_letters) q_stack, oX3 a_letters (.ref a_letters_bytes) (.int v_letters_length), aI cI a_letters_bytes n_letters_bytes v_letters_bytes, oX1 a_p1 (.int v_p1_facts) (.int v_p1_so) (.int v_p1_common) (.int v_p1_cases) (.int v_p1_firstTrueDay)] H → va_S A s.heap H locs → lv_has ls 5 [(0, .ref a_th), (1, .ref a_p1), (2, .int x1), (3, .int x2), (4, .int r5)] → W p l e (headSpec wsX5_firstFault { frames := 2, cells := 0, slots := 0, locals := 43 }).room s m [.ref a_th, .ref a_p1].toArray below meth c H locs 0 0 Q (F0 m 51 ls []) := by
            intro  H locs ls hm hP hS hl
            rw [ek51] at hm
            refine lv_iload hx hb dX5_firstFault_51 (lv_at hl 4 rfl) ?_
            obtain ⟨r10, ho11, hm⟩ := bd1_s hm
            refine kb_calli (Rv := r10) (va_runS (As := [.int r5]) (rest := []) ⟨hx, hb, hml, hown, hts⟩ (c_X5_isJoin l dC dI cI cJ cZ cQ t H.size r5 (r10) ho11) (va_cwS 1 hts gX5_firstFault_X5_isJoin rfl rfl rfl (by decide +kernel) ⟨(Nat.le_of_ble_eq_true rfl), (Nat.le_of_ble_eq_true rfl)⟩) (kb_pre hK hG hP (kb_D hD rfl) hS hA [] rfl (by decide)) rfl rfl hl.1 rfl (lv_room (Nat.le_of_ble_eq_true rfl)) dX5_firstFault_53 ⟨Nat.zero_le _, Nat.zero_le _⟩) hP (kb_D hD rfl) hS hA [] rfl [(false, 0), (false, 1), (false, 2), (false, 3)] (w2 := [oX5 a_th (.ref a_letters) q_stack, oX3 a_letters (.ref a_letters_bytes) (.int v_letters_length), aI cI a_letters_bytes n_letters_bytes v_letters_bytes, oX1 a_p1 (.int v_p1_facts) (.int v_p1_so) (.int v_p1_common) (.int v_p1_cases) (.int v_p1_firstTrueDay)]) rfl (by decide) (fun H locs hP hS => ?_)
            obtain ⟨k75, ek75, hm⟩ := nm_s hm
            have J75 : ∀ (x12 : Int32) (H : Heap) (locs : List Loc) (ls : Array Slot), k75 x12 = some o → va_P (dC, dI) vwCl [oX5 a_th (.ref a_letters) q_stack, oX3 a_letters (.ref a_letters_bytes) (.int v_letters_length), aI cI a_letters_bytes n_letters_bytes v_letters_bytes, oX1 a_p1 (.int v_p1_facts) (.int v_p1_so) (.int v_p1_common) (.int v_p1_cases) (.int v_p1_firstTrueDay)] H → va_S A s.heap H locs → lv_has ls 5 [(0, .ref a_th), (1, .ref a_p1), (2, .int x12), (3, .int x2)] → W p l e (headSpec wsX5_firstFault { frames := 2, cells := 0, slots := 0, locals := 43 }).room s m [.ref a_th, .ref a_p1].toArray below meth c H locs 0 0 Q (F0 m 75 ls []) := by
              intro x12 H locs ls hm hP hS hl
              rw [ek75] at hm
              obtain ⟨x13, ex13⟩ : ∃ y : Int32, y = x2 + (1 : Int32) := ⟨_, rfl⟩
              replace hm := nm_t ex13 hm
              refine lv_iinc (v := x13) (lv' := [(3, .int x13), (0, .ref a_th), (1, .ref a_p1), (2, .int x12)]) hx hb dX5_firstFault_75 hl (k := 3) rfl (by rw [ex13]; rfl) (by decide) rfl (fun ls hl => ?_)
              refine lv_goto (tgt := 4) hx hb dX5_firstFault_78 (by decide) ?_
              exact ih4 x12 x13 k4 _ _ _ hm hk4 hP hS (lv_sub hl [1, 2, 3, 0] rfl)
            refine lv_if_eq (tgt := 65) hx hb dX5_firstFault_56 (by decide) (fun c14 => ?_) (fun c14 => ?_)
            · replace hm := ite_t c14 hm
              refine lv_iload hx hb dX5_firstFault_65 (lv_at hl 4 rfl) ?_
              refine lv_bipush (v := (110 : Int32)) hx hb dX5_firstFault_67 (by decide) ?_
              refine lv_icmp_eq (tgt := 75) hx hb dX5_firstFault_69 (by decide) (fun c15 => ?_) (fun c15 => ?_)
              · replace hm := ite_t c15 hm
                exact J75 x1 _ _ _ hm hP hS (lv_sub hl [0, 1, 2, 3] rfl)
              · replace hm := ite_f c15 hm
                obtain ⟨x16, ex16⟩ : ∃ y : Int32, y = x1 + (-1 : Int32) := ⟨_, rfl⟩
                replace hm := nm_t ex16 hm
                refine lv_iinc (v := x16) (lv' := [(2, .int x16), (0, .ref a_th), (1, .ref a_p1), (3, .int x2), (4, .int r5)]) hx hb dX5_firstFault_72 hl (k := 2) rfl (by rw [ex16]; rfl) (by decide) rfl (fun ls hl => ?_)
                exact J75 x16 _ _ _ hm hP hS (lv_sub hl [1, 2, 0, 3] rfl)
            · replace hm := ite_f c14 hm
              obtain ⟨x17, ex17⟩ : ∃ y : Int32, y = x1 + (1 : Int32) := ⟨_, rfl⟩
              replace hm := nm_t ex17 hm
              refine lv_iinc (v := x17) (lv' := [(2, .int x17), (0, .ref a_th), (1, .ref a_p1), (3, .int x2), (4, .int r5)]) hx hb dX5_firstFault_59 hl (k := 2) rfl (by rw [ex17]; rfl) (by decide) rfl (fun ls hl => ?_)
              refine lv_goto (tgt := 75) hx hb dX5_firstFault_62 (by decide) ?_
              exact J75 x17 _ _ _ hm hP hS (lv_sub hl [1, 2, 0, 3] rfl)
          refine lv_if_ne (tgt := 51) hx hb dX5_firstFault_34 (by decide) (fun c18 => ?_) (fun c18 => ?_)
          · replace hm := ite_f c18 hm
            exact J51  _ _ _ hm hP hS (lv_sub hl [1, 2, 3, 4, 0] rfl)
          · replace hm := ite_t c18 hm
            refine lv_aload_n hx hb dX5_firstFault_37 rfl (lv_at hl 2 rfl) ?_
            refine lv_iload hx hb dX5_firstFault_38 (lv_at hl 0 rfl) ?_
            obtain ⟨r19, ho20, hm⟩ := bd1_s hm
            refine kb_calli (Rv := r19) (va_runS (As := [.int r5]) (rest := [.ref a_p1]) ⟨hx, hb, hml, hown, hts⟩ (c_X5_simpleOf l dC dI cI cJ cZ cQ t H.size r5 (r19) ho20) (va_cwS 1 hts gX5_firstFault_X5_simpleOf rfl rfl rfl (by decide +kernel) ⟨(Nat.le_of_ble_eq_true rfl), (Nat.le_of_ble_eq_true rfl)⟩) (kb_pre hK hG hP (kb_D hD rfl) hS hA [] rfl (by decide)) rfl rfl hl.1 rfl (lv_room (Nat.le_of_ble_eq_true rfl)) dX5_firstFault_40 ⟨Nat.zero_le _, Nat.zero_le _⟩) hP (kb_D hD rfl) hS hA [] rfl [(false, 0), (false, 1), (false, 2), (false, 3)] (w2 := [oX5 a_th (.ref a_letters) q_stack, oX3 a_letters (.ref a_letters_bytes) (.int v_letters_length), aI cI a_letters_bytes n_letters_bytes v_letters_bytes, oX1 a_p1 (.int v_p1_facts) (.int v_p1_so) (.int v_p1_common) (.int v_p1_cases) (.int v_p1_firstTrueDay)]) rfl (by decide) (fun H locs hP hS => ?_)
            obtain ⟨r21, ho22, hm⟩ := bd1_s hm
            refine kb_calli (Rv := r21) (va_runV (As := [.int r19]) (rest := []) ⟨hx, hb, hml, hown, hts⟩ (c_X1_hasSimple l dC dI cI cJ cZ cQ t H.size a_p1 v_p1_facts v_p1_so v_p1_common v_p1_cases v_p1_firstTrueDay r19 (r21) ho22) (cwV 1 hts gX5_firstFault_X1_hasSimple rfl rfl rfl (by decide +kernel) ⟨(Nat.le_of_ble_eq_true rfl), (Nat.le_of_ble_eq_true rfl)⟩) ⟨(kb_pre hK hG hP (kb_D hD rfl) hS hA [3] rfl (by decide)).1, (va_recv hK hP (ci := 1) (q0 := 3) rfl rfl), (kb_pre hK hG hP (kb_D hD rfl) hS hA [3] rfl (by decide)).2⟩ rfl rfl hl.1 rfl (lv_room (Nat.le_of_ble_eq_true rfl)) dX5_firstFault_43 ⟨Nat.zero_le _, Nat.zero_le _⟩) hP (kb_D hD rfl) hS hA [3] rfl [(false, 0), (false, 1), (false, 2), (true, 0)] (w2 := [oX5 a_th (.ref a_letters) q_stack, oX3 a_letters (.ref a_letters_bytes) (.int v_letters_length), aI cI a_letters_bytes n_letters_bytes v_letters_bytes, oX1 a_p1 (.int v_p1_facts) (.int v_p1_so) (.int v_p1_common) (.int v_p1_cases) (.int v_p1_firstTrueDay)]) rfl (by decide) (fun H locs hP hS => ?_)
            refine lv_if_ne (tgt := 51) hx hb dX5_firstFault_46 (by decide) (fun c23 => ?_) (fun c23 => ?_)
            · replace hm := ite_f c23 hm
              exact J51  _ _ _ hm hP hS (lv_sub hl [1, 2, 3, 4, 0] rfl)
            · replace hm := ite_t c23 hm
              refine lv_iload_n hx hb dX5_firstFault_49 rfl (lv_at hl 4 rfl) ?_
              obtain rfl := Option.some.inj hm
              subst hQ
              exact W.iret hx hb hr (fun t ht hW => ⟨⟨_, (), rfl, rfl, kb_h hP ht⟩, hS.F ht⟩) hS.2.2 dX5_firstFault_50
  refine lp4 1024 (1 : Int32) (0 : Int32) _ _ _ _ hm (fun x3 H locs ls hm hP hS hl => ?_) hP hS (lv_sub hl [2, 3, 1, 0] rfl)
  refine lv_iload_n hx hb dX5_firstFault_81 rfl (lv_at hl 1 rfl) ?_
  refine lv_if_ne (tgt := 90) hx hb dX5_firstFault_82 (by decide) (fun c24 => ?_) (fun c24 => ?_)
  · replace hm := ite_f c24 hm
    refine lv_aload_n hx hb dX5_firstFault_90 rfl (lv_at hl 0 rfl) ?_
    refine va_get (D := (dC, dI)) (ci := 5) (v := .ref a_letters) (C := RX5) (T := TX5) (N := 2) hx hb hts iX5 hown hK hP 0 rfl rfl 0 (by decide) f14 (fun _ h9 => h9) rfl dX5_firstFault_91 ?_
    refine va_getN (D := (dC, dI)) (ci := 3) (v := .int v_letters_length) (C := RX3) (T := TX3) (N := 2) hx hb hts iX3 hown hK hP 1 rfl rfl 1 (by decide) f24 (fun _ h9 => h9) rfl dX5_firstFault_94 ?_
    obtain rfl := Option.some.inj hm
    subst hQ
    exact W.iret hx hb hr (fun t ht hW => ⟨⟨_, (), rfl, rfl, kb_h hP ht⟩, hS.F ht⟩) hS.2.2 dX5_firstFault_97
  · replace hm := ite_t c24 hm
    refine lv_bipush (v := (-9 : Int32)) hx hb dX5_firstFault_85 (by decide) ?_
    refine lv_goto (tgt := 97) hx hb dX5_firstFault_87 (by decide) ?_
    obtain rfl := Option.some.inj hm
    subst hQ
    exact W.iret hx hb hr (fun t ht hW => ⟨⟨_, (), rfl, rfl, kb_h hP ht⟩, hS.F ht⟩) hS.2.2 dX5_firstFault_97
set_option maxHeartbeats 4000000 in
set_option maxRecDepth 100000 in
theorem c_X9_slip (l : Launch) (dC : Nat → ClassId) (dI : Nat → Nat → Nat) (cI cJ cZ cQ : ClassId) (t sz : Nat) (a_th : Nat) (a_theQuestion : Nat) (a_theQuestion_letters : Nat) (a_theQuestion_letters_bytes : Nat) (a_theCastle : Nat) (n_theQuestion_letters_bytes : Nat) (q_theText : Value) (q_now : Value) (q_theActs : Value) (q_theTold : Value) (q_foresight : Value) (q_keptMoments : Value) (q_isKept : Value) (q_marchWorlds : Value) (q_theQuestion_stack : Value) (v_theSeed : Int64) (v_theQuestion_letters_length : Int32) (v_theQuestion_letters_bytes : (Nat → Int32)) (v_theCastle_facts : Int32) (v_theCastle_so : Int32) (v_theCastle_common : Int32) (v_theCastle_cases : Int32) (v_theCastle_firstTrueDay : Int32) (o : Int32) (hm : m_X9_slip n_theQuestion_letters_bytes v_theQuestion_letters_length v_theQuestion_letters_bytes v_theCastle_facts = some o) : Met l yX9_slip wsX9_slip { frames := 3, cells := 0, slots := 0, locals := 67 } (va_Pc [.ref a_th] (cP (dC, dI) (kT cI cJ cZ cQ) t sz [oX9 a_th q_theText (.ref a_theQuestion) (.ref a_theCastle) q_now q_theActs q_theTold q_foresight q_keptMoments q_isKept q_marchWorlds (.long v_theSeed), oX5 a_theQuestion (.ref a_theQuestion_letters) q_theQuestion_stack, oX3 a_theQuestion_letters (.ref a_theQuestion_letters_bytes) (.int v_theQuestion_letters_length), aI cI a_theQuestion_letters_bytes n_theQuestion_letters_bytes v_theQuestion_letters_bytes, oX1 a_theCastle (.int v_theCastle_facts) (.int v_theCastle_so) (.int v_theCastle_common) (.int v_theCastle_cases) (.int v_theCastle_firstTrueDay)])) (cQi (dC, dI) (va_A [oX9 a_th q_theText (.ref a_theQuestion) (.ref a_theCastle) q_now q_theActs q_theTold q_foresight q_keptMoments q_isKept q_marchWorlds (.long v_theSeed), oX5 a_theQuestion (.ref a_theQuestion_letters) q_theQuestion_stack, oX3 a_theQuestion_letters (.ref a_theQuestion_letters_bytes) (.int v_theQuestion_letters_length), aI cI a_theQuestion_letters_bytes n_theQuestion_letters_bytes v_theQuestion_letters_bytes, oX1 a_theCastle (.int v_theCastle_facts) (.int v_theCastle_so) (.int v_theCastle_common) (.int v_theCastle_cases) (.int v_theCastle_firstTrueDay)] sz) o [oX9 a_th q_theText (.ref a_theQuestion) (.ref a_theCastle) q_now q_theActs q_theTold q_foresight q_keptMoments q_isKept q_marchWorlds (.long v_theSeed), oX5 a_theQuestion (.ref a_theQuestion_letters) q_theQuestion_stack, oX3 a_theQuestion_letters (.ref a_theQuestion_letters_bytes) (.int v_theQuestion_letters_length), aI cI a_theQuestion_letters_bytes n_theQuestion_letters_bytes v_theQuestion_letters_bytes, oX1 a_theCastle (.int v_theCastle_facts) (.int v_theCastle_so) (.int v_theCastle_common) (.int v_theCastle_cases) (.int v_theCastle_firstTrueDay)]) 0 0 (va_A [oX9 a_th q_theText (.ref a_theQuestion) (.ref a_theCastle) q_now q_theActs q_theTold q_foresight q_keptMoments q_isKept q_marchWorlds (.long v_theSeed), oX5 a_theQuestion (.ref a_theQuestion_letters) q_theQuestion_stack, oX3 a_theQuestion_letters (.ref a_theQuestion_letters_bytes) (.int v_theQuestion_letters_length), aI cI a_theQuestion_letters_bytes n_theQuestion_letters_bytes v_theQuestion_letters_bytes, oX1 a_theCastle (.int v_theCastle_facts) (.int v_theCastle_so) (.int v_theCastle_common) (.int v_theCastle_cases) (.int v_theCastle_firstTrueDay)] sz) := by
  refine Met.ofW (cc := cX9_slip) (maxL := 1) (ret := (some .int)) (by decide) rfl ?_
  intro p e s m args below meth c s₁ B hml hv
  obtain ⟨rfl, hsz, hP, hK, hD0, hG⟩ := hv
  have hx := B.exec
  have hb := B.bytes
  have hr := B.returns
  have hts := atoms_spec (ws := wsX9_slip) B.pre
  have hown : s.vm.findClass RX9 = some m.cls := findClass_of_methodNamed B.named
  have hlocks := B.notSynchronized
  subst hsz
  have hD := hD0.self (sz := s.heap.size)
  generalize hAe : va_A [oX9 a_th q_theText (.ref a_theQuestion) (.ref a_theCastle) q_now q_theActs q_theTold q_foresight q_keptMoments q_isKept q_marchWorlds (.long v_theSeed), oX5 a_theQuestion (.ref a_theQuestion_letters) q_theQuestion_stack, oX3 a_theQuestion_letters (.ref a_theQuestion_letters_bytes) (.int v_theQuestion_letters_length), aI cI a_theQuestion_letters_bytes n_theQuestion_letters_bytes v_theQuestion_letters_bytes, oX1 a_theCastle (.int v_theCastle_facts) (.int v_theCastle_so) (.int v_theCastle_common) (.int v_theCastle_cases) (.int v_theCastle_firstTrueDay)] s.heap.size = A at hD hG ⊢
  have hA : ∀ q : Nat, s.heap.size ≤ q → A q := fun q h => by rw [← hAe]; exact Or.inr h
  have hS : va_S A s.heap s.heap [] := va_S.rf
  have hl := lv_entry ([.ref a_th]) (n := 1) (Nat.le_of_ble_eq_true rfl)
  rw [lg_entry_eq]
  generalize (lg_sl ([.ref a_th]) ++ List.replicate (1 - (lg_sl ([.ref a_th])).length) Slot.unset).toArray = ls at hl ⊢
  have hl : lv_has ls 1 [(0, .ref a_th)] := hl
  have iX9 : ∀ w ∈ wsX90, w ∈ wsX9_slip := fun _ h => List.mem_cons_of_mem _ (List.mem_append_left _ (List.mem_append_left _ (List.mem_append_left _ (List.mem_append_right _ h))))
  have iX5 : ∀ w ∈ wsX50, w ∈ wsX9_slip := fun _ h => List.mem_cons_of_mem _ (List.mem_append_left _ (List.mem_append_left _ (List.mem_append_right _ h)))
  have iX3 : ∀ w ∈ wsX30, w ∈ wsX9_slip := fun _ h => List.mem_cons_of_mem _ (List.mem_append_left _ (List.mem_append_right _ h))
  have iX1 : ∀ w ∈ wsX10, w ∈ wsX9_slip := fun _ h => List.mem_cons_of_mem _ (List.mem_append_right _ h)
  have f21 := hts (.fieldLink RX9 21 "TrueOnceWeek" "theQuestion" "LTrueOnceWeek$Question;") (by decide +kernel)
  have f28 := hts (.fieldLink RX9 28 "TrueOnceWeek" "theCastle" "LTrueOnceWeek$Castle;") (by decide +kernel)
  refine kb_gen (fun Q hQ => ?_)
  unfold m_X9_slip at hm
  refine lv_aload_n hx hb dX9_slip_0 rfl (lv_at hl 0 rfl) ?_
  refine va_get (D := (dC, dI)) (ci := 7) (v := .ref a_theQuestion) (C := RX9) (T := TX9) (N := 11) hx hb hts iX9 hown hK hP 0 rfl rfl 1 (by decide) f21 (fun _ h9 => h9) rfl dX9_slip_1 ?_
  refine lv_aload_n hx hb dX9_slip_4 rfl (lv_at hl 0 rfl) ?_
  refine va_get (D := (dC, dI)) (ci := 7) (v := .ref a_theCastle) (C := RX9) (T := TX9) (N := 11) hx hb hts iX9 hown hK hP 0 rfl rfl 2 (by decide) f28 (fun _ h9 => h9) rfl dX9_slip_5 ?_
  obtain ⟨r1, ho2, hm⟩ := bd1_s hm
  refine kb_calli (Rv := r1) (va_runV (As := [.ref a_theCastle]) (rest := []) ⟨hx, hb, hml, hown, hts⟩ (c_X5_firstFault l dC dI cI cJ cZ cQ t s.heap.size a_theQuestion a_theQuestion_letters a_theQuestion_letters_bytes a_theCastle n_theQuestion_letters_bytes q_theQuestion_stack v_theQuestion_letters_length v_theQuestion_letters_bytes v_theCastle_facts v_theCastle_so v_theCastle_common v_theCastle_cases v_theCastle_firstTrueDay (r1) ho2) (cwV 1 hts gX9_slip_X5_firstFault rfl rfl rfl (by decide +kernel) ⟨(Nat.le_of_ble_eq_true rfl), (Nat.le_of_ble_eq_true rfl)⟩) ⟨(kb_pre hK hG hP (kb_D hD rfl) hS hA [1, 2, 3, 4] rfl (by decide)).1, (va_recv hK hP (ci := 5) (q0 := 1) rfl rfl), (kb_pre hK hG hP (kb_D hD rfl) hS hA [1, 2, 3, 4] rfl (by decide)).2⟩ rfl rfl hl.1 rfl (lv_room (Nat.le_of_ble_eq_true rfl)) dX9_slip_8 ⟨Nat.zero_le _, Nat.zero_le _⟩) hP (kb_D hD rfl) hS hA [1, 2, 3, 4] rfl [(false, 0), (true, 0), (true, 1), (true, 2), (true, 3)] (w2 := [oX9 a_th q_theText (.ref a_theQuestion) (.ref a_theCastle) q_now q_theActs q_theTold q_foresight q_keptMoments q_isKept q_marchWorlds (.long v_theSeed), oX5 a_theQuestion (.ref a_theQuestion_letters) q_theQuestion_stack, oX3 a_theQuestion_letters (.ref a_theQuestion_letters_bytes) (.int v_theQuestion_letters_length), aI cI a_theQuestion_letters_bytes n_theQuestion_letters_bytes v_theQuestion_letters_bytes, oX1 a_theCastle (.int v_theCastle_facts) (.int v_theCastle_so) (.int v_theCastle_common) (.int v_theCastle_cases) (.int v_theCastle_firstTrueDay)]) rfl (by decide) (fun H locs hP hS => ?_)
  obtain rfl := Option.some.inj hm
  subst hQ
  exact W.iret hx hb hr (fun t ht hW => ⟨⟨_, (), rfl, rfl, kb_h hP ht⟩, hS.F ht⟩) hS.2.2 dX9_slip_11
