set_option maxHeartbeats 4000000 in
set_option maxRecDepth 100000 in
theorem c_X6_casesAnswered (l : Launch) (dC : Nat → ClassId) (dI : Nat → Nat → Nat) (cI cJ cZ cQ : ClassId) (t sz : Nat) (p_0 : Int32) (p_1 : Int32) (p_2 : Int32) (p_3 : Int32) (o : Int32) (hm : m_X6_casesAnswered p_0 p_1 p_2 p_3 = some o) : Met l yX6_casesAnswered wsX6_casesAnswered { frames := 2, cells := 0, slots := 0, locals := 45 } (va_Pc [.int p_0, .int p_1, .int p_2, .int p_3] (cP (dC, dI) (kT cI cJ cZ cQ) t sz [])) (cQi (dC, dI) (va_A [] sz) o []) 0 0 (va_A [] sz) := by
  refine Met.ofW (cc := cX6_casesAnswered) (maxL := 4) (ret := (some .int)) (by decide) rfl ?_
  intro p e s m args below meth c s₁ B hml hv
  obtain ⟨rfl, hsz, hP, hK, hD0, hG⟩ := hv
  have hx := B.exec
  have hb := B.bytes
  have hr := B.returns
  have hts := atoms_spec (ws := wsX6_casesAnswered) B.pre
  have hown : s.vm.findClass RX6 = some m.cls := findClass_of_methodNamed B.named
  have hlocks := B.notSynchronized
  subst hsz
  have hD := hD0.self (sz := s.heap.size)
  generalize hAe : va_A [] s.heap.size = A at hD hG ⊢
  have hA : ∀ q : Nat, s.heap.size ≤ q → A q := fun q h => by rw [← hAe]; exact Or.inr h
  have hS : va_S A s.heap s.heap [] := va_S.rf
  have hl := lv_entry ([.int p_0, .int p_1, .int p_2, .int p_3]) (n := 4) (Nat.le_of_ble_eq_true rfl)
  rw [lg_entry_eq]
  generalize (lg_sl ([.int p_0, .int p_1, .int p_2, .int p_3]) ++ List.replicate (4 - (lg_sl ([.int p_0, .int p_1, .int p_2, .int p_3])).length) Slot.unset).toArray = ls at hl ⊢
  have hl : lv_has ls 4 [(0, .int p_0), (1, .int p_1), (2, .int p_2), (3, .int p_3)] := hl
  have nl30 := (hG.2.1 (RX6, 30, yX9_casesGiving) (by decide +kernel) : va_Nw (.methodLinkNest RX6 30 yX9_casesGiving "TrueOnceWeek") s)
  have ni30 := hts (.initialized RX9) (by decide +kernel)
  have ns30 := hts (.static yX9_casesGiving) (by decide +kernel)
  refine kb_gen (fun Q hQ => ?_)
  unfold m_X6_casesAnswered at hm
  refine lv_iload_n hx hb dX6_casesAnswered_0 rfl (lv_at hl 1 rfl) ?_
  refine lv_iload_n hx hb dX6_casesAnswered_1 rfl (lv_at hl 0 rfl) ?_
  refine lv_iconst (v := (1 : Int32)) hx hb dX6_casesAnswered_2 (by decide) ?_
  refine lv_iload_n hx hb dX6_casesAnswered_3 rfl (lv_at hl 2 rfl) ?_
  refine lv_iload_n hx hb dX6_casesAnswered_4 rfl (lv_at hl 3 rfl) ?_
  obtain ⟨r1, ho2, hm⟩ := bd1_s hm
  refine kb_calli (Rv := r1) (va_runS (As := [.int p_0, .int (1 : Int32), .int p_2, .int p_3]) (rest := [.int p_1]) ⟨hx, hb, hml, hown, hts⟩ (c_X6_casesSo l dC dI cI cJ cZ cQ t s.heap.size p_0 (1 : Int32) p_2 p_3 (r1) ho2) (va_cwS 4 hts gX6_casesAnswered_X6_casesSo rfl rfl rfl (by decide +kernel) ⟨(Nat.le_of_ble_eq_true rfl), (Nat.le_of_ble_eq_true rfl)⟩) (kb_pre hK hG hP (kb_D hD rfl) hS hA [] rfl (by decide)) rfl rfl hl.1 rfl (lv_room (Nat.le_of_ble_eq_true rfl)) dX6_casesAnswered_5 ⟨Nat.zero_le _, Nat.zero_le _⟩) hP (kb_D hD rfl) hS hA [] rfl [] (w2 := []) rfl (by decide) (fun H locs hP hS => ?_)
  refine lv_iload_n hx hb dX6_casesAnswered_8 rfl (lv_at hl 0 rfl) ?_
  refine lv_iconst (v := (0 : Int32)) hx hb dX6_casesAnswered_9 (by decide) ?_
  refine lv_iload_n hx hb dX6_casesAnswered_10 rfl (lv_at hl 2 rfl) ?_
  refine lv_iload_n hx hb dX6_casesAnswered_11 rfl (lv_at hl 3 rfl) ?_
  obtain ⟨r3, ho4, hm⟩ := bd1_s hm
  refine kb_calli (Rv := r3) (va_runS (As := [.int p_0, .int (0 : Int32), .int p_2, .int p_3]) (rest := [.int r1, .int p_1]) ⟨hx, hb, hml, hown, hts⟩ (c_X6_casesSo l dC dI cI cJ cZ cQ t H.size p_0 (0 : Int32) p_2 p_3 (r3) ho4) (va_cwS 4 hts gX6_casesAnswered_X6_casesSo rfl rfl rfl (by decide +kernel) ⟨(Nat.le_of_ble_eq_true rfl), (Nat.le_of_ble_eq_true rfl)⟩) (kb_pre hK hG hP (kb_D hD rfl) hS hA [] rfl (by decide)) rfl rfl hl.1 rfl (lv_room (Nat.le_of_ble_eq_true rfl)) dX6_casesAnswered_12 ⟨Nat.zero_le _, Nat.zero_le _⟩) hP (kb_D hD rfl) hS hA [] rfl [] (w2 := []) rfl (by decide) (fun H locs hP hS => ?_)
  refine lv_iload_n hx hb dX6_casesAnswered_15 rfl (lv_at hl 2 rfl) ?_
  refine lv_iload_n hx hb dX6_casesAnswered_16 rfl (lv_at hl 3 rfl) ?_
  obtain ⟨k25, ek25, hm⟩ := nm_s hm
  have J25 : ∀ (x5 : Int32) (H : Heap) (locs : List Loc) (ls : Array Slot), k25 x5 = some o → va_P (dC, dI) vwCl [] H → va_S A s.heap H locs → lv_has ls 4 [] → W p l e (headSpec wsX6_casesAnswered { frames := 2, cells := 0, slots := 0, locals := 45 }).room s m [.int p_0, .int p_1, .int p_2, .int p_3].toArray below meth c H locs 0 0 Q (F0 m 25 ls [.int x5, .int r3, .int r1, .int p_1]) := by
    intro x5 H locs ls hm hP hS hl
    rw [ek25] at hm
    obtain ⟨r6, ho7, hm⟩ := bd1_s hm
    refine kb_calli (Rv := r6) (va_runSN (As := [.int p_1, .int r1, .int r3, .int x5]) (rest := []) ⟨hx, hb, hml, hown, hts⟩ (c_X9_casesGiving l dC dI cI cJ cZ cQ t H.size p_1 r1 r3 x5 (r6) ho7) ⟨va_cnB (ret := (some .int)) (maxL := 6) 4 hts gX6_casesAnswered_X9_casesGiving_n30 rfl rfl rfl nl30 ni30 (by decide +kernel) ⟨(Nat.le_of_ble_eq_true rfl), (Nat.le_of_ble_eq_true rfl)⟩, ns30, trivial⟩ (kb_pre hK hG hP (kb_D hD rfl) hS hA [] rfl (by decide)) rfl rfl hl.1 rfl (lv_room (Nat.le_of_ble_eq_true rfl)) dX6_casesAnswered_25 ⟨Nat.zero_le _, Nat.zero_le _⟩) hP (kb_D hD rfl) hS hA [] rfl [] (w2 := []) rfl (by decide) (fun H locs hP hS => ?_)
    obtain rfl := Option.some.inj hm
    subst hQ
    exact W.iret hx hb hr (fun t ht hW => ⟨⟨_, (), rfl, rfl, kb_h hP ht⟩, hS.F ht⟩) hS.2.2 dX6_casesAnswered_28
  refine lv_icmp_ne (tgt := 24) hx hb dX6_casesAnswered_17 (by decide) (fun c8 => ?_) (fun c8 => ?_)
  · replace hm := ite_f c8 hm
    refine lv_iconst (v := (0 : Int32)) hx hb dX6_casesAnswered_24 (by decide) ?_
    exact J25 (0 : Int32) _ _ _ hm hP hS (lv_sub hl [] rfl)
  · replace hm := ite_t c8 hm
    refine lv_iconst (v := (1 : Int32)) hx hb dX6_casesAnswered_20 (by decide) ?_
    refine lv_goto (tgt := 25) hx hb dX6_casesAnswered_21 (by decide) ?_
    exact J25 (1 : Int32) _ _ _ hm hP hS (lv_sub hl [] rfl)
set_option maxHeartbeats 4000000 in
set_option maxRecDepth 100000 in
theorem c_X8_countAnswered (l : Launch) (dC : Nat → ClassId) (dI : Nat → Nat → Nat) (cI cJ cZ cQ : ClassId) (t sz : Nat) (a_p0 : Nat) (n_p0 : Nat) (v_p0 : (Nat → Int32)) (p_1 : Int32) (p_2 : Int32) (p_3 : Int32) (o : Int32) (hm : m_X8_countAnswered p_1 p_2 p_3 n_p0 v_p0 = some o) : Met l yX8_countAnswered wsX8_countAnswered { frames := 3, cells := 0, slots := 0, locals := 68 } (va_Pc [.ref a_p0, .int p_1, .int p_2, .int p_3] (cP (dC, dI) (kT cI cJ cZ cQ) t sz [aI cI a_p0 n_p0 v_p0])) (cQi (dC, dI) (va_A [aI cI a_p0 n_p0 v_p0] sz) o [aI cI a_p0 n_p0 v_p0]) 0 0 (va_A [aI cI a_p0 n_p0 v_p0] sz) := by
  refine Met.ofW (cc := cX8_countAnswered) (maxL := 6) (ret := (some .int)) (by decide) rfl ?_
  intro p e s m args below meth c s₁ B hml hv
  obtain ⟨rfl, hsz, hP, hK, hD0, hG⟩ := hv
  have hx := B.exec
  have hb := B.bytes
  have hr := B.returns
  have hts := atoms_spec (ws := wsX8_countAnswered) B.pre
  have hown : s.vm.findClass RX8 = some m.cls := findClass_of_methodNamed B.named
  have hlocks := B.notSynchronized
  subst hsz
  have hD := hD0.self (sz := s.heap.size)
  generalize hAe : va_A [aI cI a_p0 n_p0 v_p0] s.heap.size = A at hD hG ⊢
  have hA : ∀ q : Nat, s.heap.size ≤ q → A q := fun q h => by rw [← hAe]; exact Or.inr h
  have hS : va_S A s.heap s.heap [] := va_S.rf
  have hl := lv_entry ([.ref a_p0, .int p_1, .int p_2, .int p_3]) (n := 6) (Nat.le_of_ble_eq_true rfl)
  rw [lg_entry_eq]
  generalize (lg_sl ([.ref a_p0, .int p_1, .int p_2, .int p_3]) ++ List.replicate (6 - (lg_sl ([.ref a_p0, .int p_1, .int p_2, .int p_3])).length) Slot.unset).toArray = ls at hl ⊢
  have hl : lv_has ls 6 [(0, .ref a_p0), (1, .int p_1), (2, .int p_2), (3, .int p_3)] := hl
  refine kb_gen (fun Q hQ => ?_)
  unfold m_X8_countAnswered at hm
  refine lv_iconst (v := (0 : Int32)) hx hb dX8_countAnswered_0 (by decide) ?_
  refine lv_istore (lv' := [(4, .int (0 : Int32)), (0, .ref a_p0), (1, .int p_1), (2, .int p_2), (3, .int p_3)]) hx hb dX8_countAnswered_1 hl (by decide) rfl (fun ls hl => ?_)
  refine lv_iconst (v := (0 : Int32)) hx hb dX8_countAnswered_3 (by decide) ?_
  refine lv_istore (lv' := [(5, .int (0 : Int32)), (4, .int (0 : Int32)), (0, .ref a_p0), (1, .int p_1), (2, .int p_2), (3, .int p_3)]) hx hb dX8_countAnswered_4 hl (by decide) rfl (fun ls hl => ?_)
  have lp6 : ∀ (n6 : Nat) (x1 : Int32) (x2 : Int32) (k6 : Int32 → Option (Int32)) (H : Heap) (locs : List Loc) (ls : Array Slot), L_X8_countAnswered_6 v_p0 p_1 p_2 p_3 n_p0 n6 x1 x2 k6 = some o → (∀ (x3 : Int32) (H : Heap) (locs : List Loc) (ls : Array Slot), k6 x3 = some o → va_P (dC, dI) vwCl [aI cI a_p0 n_p0 v_p0] H → va_S A s.heap H locs → lv_has ls 6 [(4, .int x3)] → W p l e (headSpec wsX8_countAnswered { frames := 3, cells := 0, slots := 0, locals := 68 }).room s m [.ref a_p0, .int p_1, .int p_2, .int p_3].toArray below meth c H locs 0 0 Q (F0 m 40 ls [])) → va_P (dC, dI) vwCl [aI cI a_p0 n_p0 v_p0] H → va_S A s.heap H locs → lv_has ls 6 [(0, .ref a_p0), (1, .int p_1), (2, .int p_2), (3, .int p_3), (4, .int x1), (5, .int x2)] → W p l e (headSpec wsX8_countAnswered { frames := 3, cells := 0, slots := 0, locals := 68 }).room s m [.ref a_p0, .int p_1, .int p_2, .int p_3].toArray below meth c H locs 0 0 Q (F0 m 6 ls []) := by
    intro n6
    induction n6 with
    | zero =>
      intro x1 x2 k6 H locs ls hm
      cases (show (none : Option (Int32)) = some o from hm)
    | succ n6 ih6 =>
      intro x1 x2 k6 H locs ls hm hk6 hP hS hl
      rw [L_X8_countAnswered_6.eq_2] at hm
      refine lv_iload hx hb dX8_countAnswered_6 (lv_at hl 5 rfl) ?_
      refine lv_aload_n hx hb dX8_countAnswered_8 rfl (lv_at hl 0 rfl) ?_
      refine va_alen (v := (Int32.ofNat n_p0)) hx hb hK hP 0 0 rfl rfl rfl dX8_countAnswered_9 ?_
      refine lv_icmp_ge (tgt := 40) hx hb dX8_countAnswered_10 (by decide) (fun c4 => ?_) (fun c4 => ?_)
      · replace hm := ite_t c4 hm
        exact hk6 x1 _ _ _ hm hP hS (lv_sub hl [4] rfl)
      · replace hm := ite_f c4 hm
        refine lv_iload hx hb dX8_countAnswered_13 (lv_at hl 4 rfl) ?_
        refine lv_aload_n hx hb dX8_countAnswered_15 rfl (lv_at hl 0 rfl) ?_
        refine lv_iload hx hb dX8_countAnswered_16 (lv_at hl 5 rfl) ?_
        obtain ⟨h5, hm⟩ := gd_s hm
        refine va_iald hx hb hK hP 0 0 rfl rfl (inB_s h5) dX8_countAnswered_18 ?_
        refine lv_iload_n hx hb dX8_countAnswered_19 rfl (lv_at hl 1 rfl) ?_
        refine lv_iload_n hx hb dX8_countAnswered_20 rfl (lv_at hl 2 rfl) ?_
        refine lv_iload_n hx hb dX8_countAnswered_21 rfl (lv_at hl 3 rfl) ?_
        refine lv_iload hx hb dX8_countAnswered_22 (lv_at hl 5 rfl) ?_
        obtain ⟨r6, ho7, hm⟩ := bd1_s hm
        refine kb_calli (Rv := r6) (va_runS (As := [.int p_1, .int p_2, .int p_3, .int x2]) (rest := [.int (v_p0 (Int32.toNatClampNeg x2)), .int x1]) ⟨hx, hb, hml, hown, hts⟩ (c_X6_casesAnswered l dC dI cI cJ cZ cQ t H.size p_1 p_2 p_3 x2 (r6) ho7) (va_cwS 4 hts gX8_countAnswered_X6_casesAnswered rfl rfl rfl (by decide +kernel) ⟨(Nat.le_of_ble_eq_true rfl), (Nat.le_of_ble_eq_true rfl)⟩) (kb_pre hK hG hP (kb_D hD rfl) hS hA [] rfl (by decide)) rfl rfl hl.1 rfl (lv_room (Nat.le_of_ble_eq_true rfl)) dX8_countAnswered_24 ⟨Nat.zero_le _, Nat.zero_le _⟩) hP (kb_D hD rfl) hS hA [] rfl [(false, 0)] (w2 := [aI cI a_p0 n_p0 v_p0]) rfl (by decide) (fun H locs hP hS => ?_)
        refine lv_iand hx hb dX8_countAnswered_27 ?_
        obtain ⟨r8, ho9, hm⟩ := bd1_s hm
        refine kb_calli (Rv := r8) (va_runS (As := [.int ((v_p0 (Int32.toNatClampNeg x2)) &&& r6)]) (rest := [.int x1]) ⟨hx, hb, hml, hown, hts⟩ (c_J6_bitCount_0f7a4 l dC dI cI cJ cZ cQ t H.size ((v_p0 (Int32.toNatClampNeg x2)) &&& r6) (r8) ho9) (va_cwS 1 hts gX8_countAnswered_J6_bitCount_0f7a4 rfl rfl rfl (by decide +kernel) ⟨(Nat.le_of_ble_eq_true rfl), (Nat.le_of_ble_eq_true rfl)⟩) (kb_pre hK hG hP (kb_D hD rfl) hS hA [] rfl (by decide)) rfl rfl hl.1 rfl (lv_room (Nat.le_of_ble_eq_true rfl)) dX8_countAnswered_28 ⟨Nat.zero_le _, Nat.zero_le _⟩) hP (kb_D hD rfl) hS hA [] rfl [(false, 0)] (w2 := [aI cI a_p0 n_p0 v_p0]) rfl (by decide) (fun H locs hP hS => ?_)
        refine lv_iadd hx hb dX8_countAnswered_31 ?_
        refine lv_topi (fun x10 ex10 => ?_)
        replace hm := nm_t ex10 hm
        refine lv_istore (lv' := [(4, .int x10), (0, .ref a_p0), (1, .int p_1), (2, .int p_2), (3, .int p_3), (5, .int x2)]) hx hb dX8_countAnswered_32 hl (by decide) rfl (fun ls hl => ?_)
        obtain ⟨x11, ex11⟩ : ∃ y : Int32, y = x2 + (1 : Int32) := ⟨_, rfl⟩
        replace hm := nm_t ex11 hm
        refine lv_iinc (v := x11) (lv' := [(5, .int x11), (4, .int x10), (0, .ref a_p0), (1, .int p_1), (2, .int p_2), (3, .int p_3)]) hx hb dX8_countAnswered_34 hl (k := 5) rfl (by rw [ex11]; rfl) (by decide) rfl (fun ls hl => ?_)
        refine lv_goto (tgt := 6) hx hb dX8_countAnswered_37 (by decide) ?_
        exact ih6 x10 x11 k6 _ _ _ hm hk6 hP hS (lv_sub hl [2, 3, 4, 5, 1, 0] rfl)
  refine lp6 1024 (0 : Int32) (0 : Int32) _ _ _ _ hm (fun x3 H locs ls hm hP hS hl => ?_) hP hS (lv_sub hl [2, 3, 4, 5, 1, 0] rfl)
  refine lv_iload hx hb dX8_countAnswered_40 (lv_at hl 0 rfl) ?_
  obtain rfl := Option.some.inj hm
  subst hQ
  exact W.iret hx hb hr (fun t ht hW => ⟨⟨_, (), rfl, rfl, kb_h hP ht⟩, hS.F ht⟩) hS.2.2 dX8_countAnswered_42
set_option maxHeartbeats 4000000 in
set_option maxRecDepth 100000 in
theorem c_X9_simpleParts (l : Launch) (dC : Nat → ClassId) (dI : Nat → Nat → Nat) (cI cJ cZ cQ : ClassId) (t sz : Nat) (a_th : Nat) (a_theCastle : Nat) (a_now : Nat) (a_now_known : Nat) (q_theText : Value) (q_theQuestion : Value) (q_theActs : Value) (q_theTold : Value) (q_foresight : Value) (q_keptMoments : Value) (q_isKept : Value) (q_marchWorlds : Value) (v_theSeed : Int64) (v_theCastle_facts : Int32) (v_theCastle_so : Int32) (v_theCastle_common : Int32) (v_theCastle_cases : Int32) (v_theCastle_firstTrueDay : Int32) (v_now_date : Int32) (v_now_trueDay : Int32) (v_now_wasAsked : Int32) (v_now_clothState : Int32) (v_now_cracks : Int32) (v_now_known : (Nat → Int32)) (p_1 : Int32) (p_2 : Int32) (o : Int32) (hm : m_X9_simpleParts p_1 p_2 v_theCastle_facts v_now_date v_now_known = some o) : Met l yX9_simpleParts wsX9_simpleParts { frames := 4, cells := 0, slots := 0, locals := 93 } (va_Pc [.ref a_th, .int p_1, .int p_2] (cP (dC, dI) (kT cI cJ cZ cQ) t sz [oX9 a_th q_theText q_theQuestion (.ref a_theCastle) (.ref a_now) q_theActs q_theTold q_foresight q_keptMoments q_isKept q_marchWorlds (.long v_theSeed), oX1 a_theCastle (.int v_theCastle_facts) (.int v_theCastle_so) (.int v_theCastle_common) (.int v_theCastle_cases) (.int v_theCastle_firstTrueDay), oX4 a_now (.int v_now_date) (.int v_now_trueDay) (.int v_now_wasAsked) (.int v_now_clothState) (.int v_now_cracks) (.ref a_now_known), aI cI a_now_known 7 v_now_known])) (cQi (dC, dI) (va_A [oX9 a_th q_theText q_theQuestion (.ref a_theCastle) (.ref a_now) q_theActs q_theTold q_foresight q_keptMoments q_isKept q_marchWorlds (.long v_theSeed), oX1 a_theCastle (.int v_theCastle_facts) (.int v_theCastle_so) (.int v_theCastle_common) (.int v_theCastle_cases) (.int v_theCastle_firstTrueDay), oX4 a_now (.int v_now_date) (.int v_now_trueDay) (.int v_now_wasAsked) (.int v_now_clothState) (.int v_now_cracks) (.ref a_now_known), aI cI a_now_known 7 v_now_known] sz) o [oX9 a_th q_theText q_theQuestion (.ref a_theCastle) (.ref a_now) q_theActs q_theTold q_foresight q_keptMoments q_isKept q_marchWorlds (.long v_theSeed), oX1 a_theCastle (.int v_theCastle_facts) (.int v_theCastle_so) (.int v_theCastle_common) (.int v_theCastle_cases) (.int v_theCastle_firstTrueDay), oX4 a_now (.int v_now_date) (.int v_now_trueDay) (.int v_now_wasAsked) (.int v_now_clothState) (.int v_now_cracks) (.ref a_now_known), aI cI a_now_known 7 v_now_known]) 0 0 (va_A [oX9 a_th q_theText q_theQuestion (.ref a_theCastle) (.ref a_now) q_theActs q_theTold q_foresight q_keptMoments q_isKept q_marchWorlds (.long v_theSeed), oX1 a_theCastle (.int v_theCastle_facts) (.int v_theCastle_so) (.int v_theCastle_common) (.int v_theCastle_cases) (.int v_theCastle_firstTrueDay), oX4 a_now (.int v_now_date) (.int v_now_trueDay) (.int v_now_wasAsked) (.int v_now_clothState) (.int v_now_cracks) (.ref a_now_known), aI cI a_now_known 7 v_now_known] sz) := by
  refine Met.ofW (cc := cX9_simpleParts) (maxL := 3) (ret := (some .int)) (by decide) rfl ?_
  intro p e s m args below meth c s₁ B hml hv
  obtain ⟨rfl, hsz, hP, hK, hD0, hG⟩ := hv
  have hx := B.exec
  have hb := B.bytes
  have hr := B.returns
  have hts := atoms_spec (ws := wsX9_simpleParts) B.pre
  have hown : s.vm.findClass RX9 = some m.cls := findClass_of_methodNamed B.named
  have hlocks := B.notSynchronized
  subst hsz
  have hD := hD0.self (sz := s.heap.size)
  generalize hAe : va_A [oX9 a_th q_theText q_theQuestion (.ref a_theCastle) (.ref a_now) q_theActs q_theTold q_foresight q_keptMoments q_isKept q_marchWorlds (.long v_theSeed), oX1 a_theCastle (.int v_theCastle_facts) (.int v_theCastle_so) (.int v_theCastle_common) (.int v_theCastle_cases) (.int v_theCastle_firstTrueDay), oX4 a_now (.int v_now_date) (.int v_now_trueDay) (.int v_now_wasAsked) (.int v_now_clothState) (.int v_now_cracks) (.ref a_now_known), aI cI a_now_known 7 v_now_known] s.heap.size = A at hD hG ⊢
  have hA : ∀ q : Nat, s.heap.size ≤ q → A q := fun q h => by rw [← hAe]; exact Or.inr h
  have hS : va_S A s.heap s.heap [] := va_S.rf
  have hl := lv_entry ([.ref a_th, .int p_1, .int p_2]) (n := 3) (Nat.le_of_ble_eq_true rfl)
  rw [lg_entry_eq]
  generalize (lg_sl ([.ref a_th, .int p_1, .int p_2]) ++ List.replicate (3 - (lg_sl ([.ref a_th, .int p_1, .int p_2])).length) Slot.unset).toArray = ls at hl ⊢
  have hl : lv_has ls 3 [(0, .ref a_th), (1, .int p_1), (2, .int p_2)] := hl
  have iX9 : ∀ w ∈ wsX90, w ∈ wsX9_simpleParts := fun _ h => List.mem_cons_of_mem _ (List.mem_append_left _ (List.mem_append_left _ (List.mem_append_right _ h)))
  have iX4 : ∀ w ∈ wsX40, w ∈ wsX9_simpleParts := fun _ h => List.mem_cons_of_mem _ (List.mem_append_left _ (List.mem_append_right _ h))
  have iX1 : ∀ w ∈ wsX10, w ∈ wsX9_simpleParts := fun _ h => List.mem_cons_of_mem _ (List.mem_append_right _ h)
  have f28 := hts (.fieldLink RX9 28 "TrueOnceWeek" "theCastle" "LTrueOnceWeek$Castle;") (by decide +kernel)
  have f35 := hts (.fieldLink RX9 35 "TrueOnceWeek" "now" "LTrueOnceWeek$Moment;") (by decide +kernel)
  have f113 := va_Nw.use (A := [.ref a_th, .int p_1, .int p_2].toArray) (w := .fieldLinkNest RX9 113 "TrueOnceWeek$Moment" "known" "[I" "TrueOnceWeek") rfl (hG.1 (RX9, 113, "TrueOnceWeek$Moment", "known", "[I") (by decide +kernel))
  refine kb_gen (fun Q hQ => ?_)
  unfold m_X9_simpleParts at hm
  refine lv_aload_n hx hb dX9_simpleParts_0 rfl (lv_at hl 0 rfl) ?_
  refine va_get (D := (dC, dI)) (ci := 7) (v := .ref a_theCastle) (C := RX9) (T := TX9) (N := 11) hx hb hts iX9 hown hK hP 0 rfl rfl 2 (by decide) f28 (fun _ h9 => h9) rfl dX9_simpleParts_1 ?_
  refine lv_iload_n hx hb dX9_simpleParts_4 rfl (lv_at hl 1 rfl) ?_
  obtain ⟨r1, ho2, hm⟩ := bd1_s hm
  refine kb_calli (Rv := r1) (va_runV (As := [.int p_1]) (rest := []) ⟨hx, hb, hml, hown, hts⟩ (c_X1_hasSimple l dC dI cI cJ cZ cQ t s.heap.size a_theCastle v_theCastle_facts v_theCastle_so v_theCastle_common v_theCastle_cases v_theCastle_firstTrueDay p_1 (r1) ho2) (cwV 1 hts gX9_simpleParts_X1_hasSimple rfl rfl rfl (by decide +kernel) ⟨(Nat.le_of_ble_eq_true rfl), (Nat.le_of_ble_eq_true rfl)⟩) ⟨(kb_pre hK hG hP (kb_D hD rfl) hS hA [1] rfl (by decide)).1, (va_recv hK hP (ci := 1) (q0 := 1) rfl rfl), (kb_pre hK hG hP (kb_D hD rfl) hS hA [1] rfl (by decide)).2⟩ rfl rfl hl.1 rfl (lv_room (Nat.le_of_ble_eq_true rfl)) dX9_simpleParts_5 ⟨Nat.zero_le _, Nat.zero_le _⟩) hP (kb_D hD rfl) hS hA [1] rfl [(false, 0), (true, 0), (false, 2), (false, 3)] (w2 := [oX9 a_th q_theText q_theQuestion (.ref a_theCastle) (.ref a_now) q_theActs q_theTold q_foresight q_keptMoments q_isKept q_marchWorlds (.long v_theSeed), oX1 a_theCastle (.int v_theCastle_facts) (.int v_theCastle_so) (.int v_theCastle_common) (.int v_theCastle_cases) (.int v_theCastle_firstTrueDay), oX4 a_now (.int v_now_date) (.int v_now_trueDay) (.int v_now_wasAsked) (.int v_now_clothState) (.int v_now_cracks) (.ref a_now_known), aI cI a_now_known 7 v_now_known]) rfl (by decide) (fun H locs hP hS => ?_)
  refine lv_if_eq (tgt := 18) hx hb dX9_simpleParts_8 (by decide) (fun c3 => ?_) (fun c3 => ?_)
  · replace hm := ite_t c3 hm
    refine lv_bipush (v := (-2 : Int32)) hx hb dX9_simpleParts_18 (by decide) ?_
    obtain rfl := Option.some.inj hm
    subst hQ
    exact W.iret hx hb hr (fun t ht hW => ⟨⟨_, (), rfl, rfl, kb_h hP ht⟩, hS.F ht⟩) hS.2.2 dX9_simpleParts_20
  · replace hm := ite_f c3 hm
    refine lv_iload_n hx hb dX9_simpleParts_11 rfl (lv_at hl 2 rfl) ?_
    obtain ⟨r4, ho5, hm⟩ := bd1_s hm
    refine kb_calli (Rv := r4) (va_runS (As := [.int p_2]) (rest := []) ⟨hx, hb, hml, hown, hts⟩ (c_X9_isAnswer l dC dI cI cJ cZ cQ t H.size p_2 (r4) ho5) (va_cwS 1 hts gX9_simpleParts_X9_isAnswer rfl rfl rfl (by decide +kernel) ⟨(Nat.le_of_ble_eq_true rfl), (Nat.le_of_ble_eq_true rfl)⟩) (kb_pre hK hG hP (kb_D hD rfl) hS hA [] rfl (by decide)) rfl rfl hl.1 rfl (lv_room (Nat.le_of_ble_eq_true rfl)) dX9_simpleParts_12 ⟨Nat.zero_le _, Nat.zero_le _⟩) hP (kb_D hD rfl) hS hA [] rfl [(false, 0), (false, 1), (false, 2), (false, 3)] (w2 := [oX9 a_th q_theText q_theQuestion (.ref a_theCastle) (.ref a_now) q_theActs q_theTold q_foresight q_keptMoments q_isKept q_marchWorlds (.long v_theSeed), oX1 a_theCastle (.int v_theCastle_facts) (.int v_theCastle_so) (.int v_theCastle_common) (.int v_theCastle_cases) (.int v_theCastle_firstTrueDay), oX4 a_now (.int v_now_date) (.int v_now_trueDay) (.int v_now_wasAsked) (.int v_now_clothState) (.int v_now_cracks) (.ref a_now_known), aI cI a_now_known 7 v_now_known]) rfl (by decide) (fun H locs hP hS => ?_)
    refine lv_if_ne (tgt := 21) hx hb dX9_simpleParts_15 (by decide) (fun c6 => ?_) (fun c6 => ?_)
    · replace hm := ite_f c6 hm
      refine lv_aload_n hx hb dX9_simpleParts_21 rfl (lv_at hl 0 rfl) ?_
      refine va_get (D := (dC, dI)) (ci := 7) (v := .ref a_now) (C := RX9) (T := TX9) (N := 11) hx hb hts iX9 hown hK hP 0 rfl rfl 3 (by decide) f35 (fun _ h9 => h9) rfl dX9_simpleParts_22 ?_
      refine va_getN (D := (dC, dI)) (ci := 4) (v := .ref a_now_known) (C := RX4) (T := TX4) (N := 6) hx hb hts iX4 hown hK hP 2 rfl rfl 5 (by decide) f113 (fun _ h9 => h9) rfl dX9_simpleParts_25 ?_
      refine lv_iload_n hx hb dX9_simpleParts_28 rfl (lv_at hl 1 rfl) ?_
      refine lv_iload_n hx hb dX9_simpleParts_29 rfl (lv_at hl 2 rfl) ?_
      refine lv_aload_n hx hb dX9_simpleParts_30 rfl (lv_at hl 0 rfl) ?_
      refine va_get (D := (dC, dI)) (ci := 7) (v := .ref a_now) (C := RX9) (T := TX9) (N := 11) hx hb hts iX9 hown hK hP 0 rfl rfl 3 (by decide) f35 (fun _ h9 => h9) rfl dX9_simpleParts_31 ?_
      obtain ⟨r7, ho8, hm⟩ := bd1_s hm
      refine kb_calli (Rv := r7) (va_runV (As := []) (rest := [.int p_2, .int p_1, .ref a_now_known]) ⟨hx, hb, hml, hown, hts⟩ (c_X4_weekday l dC dI cI cJ cZ cQ t H.size a_now (.ref a_now_known) v_now_date v_now_trueDay v_now_wasAsked v_now_clothState v_now_cracks (r7) ho8) (cwV 0 hts gX9_simpleParts_X4_weekday rfl rfl rfl (by decide +kernel) ⟨(Nat.le_of_ble_eq_true rfl), (Nat.le_of_ble_eq_true rfl)⟩) ⟨(kb_pre hK hG hP (kb_D hD rfl) hS hA [2] rfl (by decide)).1, (va_recv hK hP (ci := 4) (q0 := 2) rfl rfl), (kb_pre hK hG hP (kb_D hD rfl) hS hA [2] rfl (by decide)).2⟩ rfl rfl hl.1 rfl (lv_room (Nat.le_of_ble_eq_true rfl)) dX9_simpleParts_34 ⟨Nat.zero_le _, Nat.zero_le _⟩) hP (kb_D hD rfl) hS hA [2] rfl [(false, 0), (false, 1), (true, 0), (false, 3)] (w2 := [oX9 a_th q_theText q_theQuestion (.ref a_theCastle) (.ref a_now) q_theActs q_theTold q_foresight q_keptMoments q_isKept q_marchWorlds (.long v_theSeed), oX1 a_theCastle (.int v_theCastle_facts) (.int v_theCastle_so) (.int v_theCastle_common) (.int v_theCastle_cases) (.int v_theCastle_firstTrueDay), oX4 a_now (.int v_now_date) (.int v_now_trueDay) (.int v_now_wasAsked) (.int v_now_clothState) (.int v_now_cracks) (.ref a_now_known), aI cI a_now_known 7 v_now_known]) rfl (by decide) (fun H locs hP hS => ?_)
      obtain ⟨r9, ho10, hm⟩ := bd1_s hm
      refine kb_calli (Rv := r9) (va_runS (As := [.ref a_now_known, .int p_1, .int p_2, .int r7]) (rest := []) ⟨hx, hb, hml, hown, hts⟩ (c_X8_countAnswered l dC dI cI cJ cZ cQ t H.size a_now_known 7 v_now_known p_1 p_2 r7 (r9) ho10) (va_cwS 4 hts gX9_simpleParts_X8_countAnswered rfl rfl rfl (by decide +kernel) ⟨(Nat.le_of_ble_eq_true rfl), (Nat.le_of_ble_eq_true rfl)⟩) (kb_pre hK hG hP (kb_D hD rfl) hS hA [3] rfl (by decide)) rfl rfl hl.1 rfl (lv_room (Nat.le_of_ble_eq_true rfl)) dX9_simpleParts_37 ⟨Nat.zero_le _, Nat.zero_le _⟩) hP (kb_D hD rfl) hS hA [3] rfl [(false, 0), (false, 1), (false, 2), (true, 0)] (w2 := [oX9 a_th q_theText q_theQuestion (.ref a_theCastle) (.ref a_now) q_theActs q_theTold q_foresight q_keptMoments q_isKept q_marchWorlds (.long v_theSeed), oX1 a_theCastle (.int v_theCastle_facts) (.int v_theCastle_so) (.int v_theCastle_common) (.int v_theCastle_cases) (.int v_theCastle_firstTrueDay), oX4 a_now (.int v_now_date) (.int v_now_trueDay) (.int v_now_wasAsked) (.int v_now_clothState) (.int v_now_cracks) (.ref a_now_known), aI cI a_now_known 7 v_now_known]) rfl (by decide) (fun H locs hP hS => ?_)
      obtain rfl := Option.some.inj hm
      subst hQ
      exact W.iret hx hb hr (fun t ht hW => ⟨⟨_, (), rfl, rfl, kb_h hP ht⟩, hS.F ht⟩) hS.2.2 dX9_simpleParts_40
    · replace hm := ite_t c6 hm
      refine lv_bipush (v := (-2 : Int32)) hx hb dX9_simpleParts_18 (by decide) ?_
      obtain rfl := Option.some.inj hm
      subst hQ
      exact W.iret hx hb hr (fun t ht hW => ⟨⟨_, (), rfl, rfl, kb_h hP ht⟩, hS.F ht⟩) hS.2.2 dX9_simpleParts_20
set_option maxHeartbeats 4000000 in
set_option maxRecDepth 100000 in
theorem c_X9_leftAtWorst (l : Launch) (dC : Nat → ClassId) (dI : Nat → Nat → Nat) (cI cJ cZ cQ : ClassId) (t sz : Nat) (a_th : Nat) (a_now : Nat) (a_now_known : Nat) (q_theText : Value) (q_theQuestion : Value) (q_theCastle : Value) (q_theActs : Value) (q_theTold : Value) (q_foresight : Value) (q_keptMoments : Value) (q_isKept : Value) (q_marchWorlds : Value) (v_theSeed : Int64) (v_now_date : Int32) (v_now_trueDay : Int32) (v_now_wasAsked : Int32) (v_now_clothState : Int32) (v_now_cracks : Int32) (v_now_known : (Nat → Int32)) (p_1 : Int32) (o : Int32) (hm : m_X9_leftAtWorst p_1 v_now_date v_now_known = some o) : Met l yX9_leftAtWorst wsX9_leftAtWorst { frames := 4, cells := 0, slots := 0, locals := 93 } (va_Pc [.ref a_th, .int p_1] (cP (dC, dI) (kT cI cJ cZ cQ) t sz [oX9 a_th q_theText q_theQuestion q_theCastle (.ref a_now) q_theActs q_theTold q_foresight q_keptMoments q_isKept q_marchWorlds (.long v_theSeed), oX4 a_now (.int v_now_date) (.int v_now_trueDay) (.int v_now_wasAsked) (.int v_now_clothState) (.int v_now_cracks) (.ref a_now_known), aI cI a_now_known 7 v_now_known])) (cQi (dC, dI) (va_A [oX9 a_th q_theText q_theQuestion q_theCastle (.ref a_now) q_theActs q_theTold q_foresight q_keptMoments q_isKept q_marchWorlds (.long v_theSeed), oX4 a_now (.int v_now_date) (.int v_now_trueDay) (.int v_now_wasAsked) (.int v_now_clothState) (.int v_now_cracks) (.ref a_now_known), aI cI a_now_known 7 v_now_known] sz) o [oX9 a_th q_theText q_theQuestion q_theCastle (.ref a_now) q_theActs q_theTold q_foresight q_keptMoments q_isKept q_marchWorlds (.long v_theSeed), oX4 a_now (.int v_now_date) (.int v_now_trueDay) (.int v_now_wasAsked) (.int v_now_clothState) (.int v_now_cracks) (.ref a_now_known), aI cI a_now_known 7 v_now_known]) 0 0 (va_A [oX9 a_th q_theText q_theQuestion q_theCastle (.ref a_now) q_theActs q_theTold q_foresight q_keptMoments q_isKept q_marchWorlds (.long v_theSeed), oX4 a_now (.int v_now_date) (.int v_now_trueDay) (.int v_now_wasAsked) (.int v_now_clothState) (.int v_now_cracks) (.ref a_now_known), aI cI a_now_known 7 v_now_known] sz) := by
  refine Met.ofW (cc := cX9_leftAtWorst) (maxL := 4) (ret := (some .int)) (by decide) rfl ?_
  intro p e s m args below meth c s₁ B hml hv
  obtain ⟨rfl, hsz, hP, hK, hD0, hG⟩ := hv
  have hx := B.exec
  have hb := B.bytes
  have hr := B.returns
  have hts := atoms_spec (ws := wsX9_leftAtWorst) B.pre
  have hown : s.vm.findClass RX9 = some m.cls := findClass_of_methodNamed B.named
  have hlocks := B.notSynchronized
  subst hsz
  have hD := hD0.self (sz := s.heap.size)
  generalize hAe : va_A [oX9 a_th q_theText q_theQuestion q_theCastle (.ref a_now) q_theActs q_theTold q_foresight q_keptMoments q_isKept q_marchWorlds (.long v_theSeed), oX4 a_now (.int v_now_date) (.int v_now_trueDay) (.int v_now_wasAsked) (.int v_now_clothState) (.int v_now_cracks) (.ref a_now_known), aI cI a_now_known 7 v_now_known] s.heap.size = A at hD hG ⊢
  have hA : ∀ q : Nat, s.heap.size ≤ q → A q := fun q h => by rw [← hAe]; exact Or.inr h
  have hS : va_S A s.heap s.heap [] := va_S.rf
  have hl := lv_entry ([.ref a_th, .int p_1]) (n := 4) (Nat.le_of_ble_eq_true rfl)
  rw [lg_entry_eq]
  generalize (lg_sl ([.ref a_th, .int p_1]) ++ List.replicate (4 - (lg_sl ([.ref a_th, .int p_1])).length) Slot.unset).toArray = ls at hl ⊢
  have hl : lv_has ls 4 [(0, .ref a_th), (1, .int p_1)] := hl
  have iX9 : ∀ w ∈ wsX90, w ∈ wsX9_leftAtWorst := fun _ h => List.mem_cons_of_mem _ (List.mem_append_left _ (List.mem_append_right _ h))
  have iX4 : ∀ w ∈ wsX40, w ∈ wsX9_leftAtWorst := fun _ h => List.mem_cons_of_mem _ (List.mem_append_right _ h)
  have f35 := hts (.fieldLink RX9 35 "TrueOnceWeek" "now" "LTrueOnceWeek$Moment;") (by decide +kernel)
  have f113 := va_Nw.use (A := [.ref a_th, .int p_1].toArray) (w := .fieldLinkNest RX9 113 "TrueOnceWeek$Moment" "known" "[I" "TrueOnceWeek") rfl (hG.1 (RX9, 113, "TrueOnceWeek$Moment", "known", "[I") (by decide +kernel))
  have ml239 := hts (.methodLink RX9 239 Lib.Math.max.name) (by decide +kernel)
  have ms239 := hts (.static Lib.Math.max.name) (by decide +kernel)
  have mi239 := hts (.initialized "java/lang/Math") (by decide +kernel)
  have mc239 := hts (.code Lib.Math.max.name Lib.Math.max.code 2 (some .int)) (by decide +kernel)
  refine kb_gen (fun Q hQ => ?_)
  unfold m_X9_leftAtWorst at hm
  refine lv_iconst (v := (0 : Int32)) hx hb dX9_leftAtWorst_0 (by decide) ?_
  refine lv_istore_n (lv' := [(2, .int (0 : Int32)), (0, .ref a_th), (1, .int p_1)]) hx hb dX9_leftAtWorst_1 rfl hl (by decide) rfl (fun ls hl => ?_)
  refine lv_iconst (v := (0 : Int32)) hx hb dX9_leftAtWorst_2 (by decide) ?_
  refine lv_istore_n (lv' := [(3, .int (0 : Int32)), (2, .int (0 : Int32)), (0, .ref a_th), (1, .int p_1)]) hx hb dX9_leftAtWorst_3 rfl hl (by decide) rfl (fun ls hl => ?_)
  have lp4 : ∀ (n4 : Nat) (x1 : Int32) (x2 : Int32) (k4 : Int32 → Option (Int32)) (H : Heap) (locs : List Loc) (ls : Array Slot), L_X9_leftAtWorst_4 v_now_date v_now_known p_1 n4 x1 x2 k4 = some o → (∀ (x3 : Int32) (H : Heap) (locs : List Loc) (ls : Array Slot), k4 x3 = some o → va_P (dC, dI) vwCl [oX9 a_th q_theText q_theQuestion q_theCastle (.ref a_now) q_theActs q_theTold q_foresight q_keptMoments q_isKept q_marchWorlds (.long v_theSeed), oX4 a_now (.int v_now_date) (.int v_now_trueDay) (.int v_now_wasAsked) (.int v_now_clothState) (.int v_now_cracks) (.ref a_now_known), aI cI a_now_known 7 v_now_known] H → va_S A s.heap H locs → lv_has ls 4 [(2, .int x3)] → W p l e (headSpec wsX9_leftAtWorst { frames := 4, cells := 0, slots := 0, locals := 93 }).room s m [.ref a_th, .int p_1].toArray below meth c H locs 0 0 Q (F0 m 39 ls [])) → va_P (dC, dI) vwCl [oX9 a_th q_theText q_theQuestion q_theCastle (.ref a_now) q_theActs q_theTold q_foresight q_keptMoments q_isKept q_marchWorlds (.long v_theSeed), oX4 a_now (.int v_now_date) (.int v_now_trueDay) (.int v_now_wasAsked) (.int v_now_clothState) (.int v_now_cracks) (.ref a_now_known), aI cI a_now_known 7 v_now_known] H → va_S A s.heap H locs → lv_has ls 4 [(0, .ref a_th), (1, .int p_1), (2, .int x1), (3, .int x2)] → W p l e (headSpec wsX9_leftAtWorst { frames := 4, cells := 0, slots := 0, locals := 93 }).room s m [.ref a_th, .int p_1].toArray below meth c H locs 0 0 Q (F0 m 4 ls []) := by
    intro n4
    induction n4 with
    | zero =>
      intro x1 x2 k4 H locs ls hm
      cases (show (none : Option (Int32)) = some o from hm)
    | succ n4 ih4 =>
      intro x1 x2 k4 H locs ls hm hk4 hP hS hl
      rw [L_X9_leftAtWorst_4.eq_2] at hm
      refine lv_iload_n hx hb dX9_leftAtWorst_4 rfl (lv_at hl 3 rfl) ?_
      refine lv_iconst (v := (3 : Int32)) hx hb dX9_leftAtWorst_5 (by decide) ?_
      refine lv_icmp_ge (tgt := 39) hx hb dX9_leftAtWorst_6 (by decide) (fun c4 => ?_) (fun c4 => ?_)
      · replace hm := ite_t c4 hm
        exact hk4 x1 _ _ _ hm hP hS (lv_sub hl [2] rfl)
      · replace hm := ite_f c4 hm
        refine lv_iload_n hx hb dX9_leftAtWorst_9 rfl (lv_at hl 2 rfl) ?_
        refine lv_aload_n hx hb dX9_leftAtWorst_10 rfl (lv_at hl 0 rfl) ?_
        refine va_get (D := (dC, dI)) (ci := 7) (v := .ref a_now) (C := RX9) (T := TX9) (N := 11) hx hb hts iX9 hown hK hP 0 rfl rfl 3 (by decide) f35 (fun _ h9 => h9) rfl dX9_leftAtWorst_11 ?_
        refine va_getN (D := (dC, dI)) (ci := 4) (v := .ref a_now_known) (C := RX4) (T := TX4) (N := 6) hx hb hts iX4 hown hK hP 1 rfl rfl 5 (by decide) f113 (fun _ h9 => h9) rfl dX9_leftAtWorst_14 ?_
        refine lv_iload_n hx hb dX9_leftAtWorst_17 rfl (lv_at hl 1 rfl) ?_
        refine lv_iload_n hx hb dX9_leftAtWorst_18 rfl (lv_at hl 3 rfl) ?_
        refine lv_aload_n hx hb dX9_leftAtWorst_19 rfl (lv_at hl 0 rfl) ?_
        refine va_get (D := (dC, dI)) (ci := 7) (v := .ref a_now) (C := RX9) (T := TX9) (N := 11) hx hb hts iX9 hown hK hP 0 rfl rfl 3 (by decide) f35 (fun _ h9 => h9) rfl dX9_leftAtWorst_20 ?_
        obtain ⟨r5, ho6, hm⟩ := bd1_s hm
        refine kb_calli (Rv := r5) (va_runV (As := []) (rest := [.int x2, .int p_1, .ref a_now_known, .int x1]) ⟨hx, hb, hml, hown, hts⟩ (c_X4_weekday l dC dI cI cJ cZ cQ t H.size a_now (.ref a_now_known) v_now_date v_now_trueDay v_now_wasAsked v_now_clothState v_now_cracks (r5) ho6) (cwV 0 hts gX9_leftAtWorst_X4_weekday rfl rfl rfl (by decide +kernel) ⟨(Nat.le_of_ble_eq_true rfl), (Nat.le_of_ble_eq_true rfl)⟩) ⟨(kb_pre hK hG hP (kb_D hD rfl) hS hA [1] rfl (by decide)).1, (va_recv hK hP (ci := 4) (q0 := 1) rfl rfl), (kb_pre hK hG hP (kb_D hD rfl) hS hA [1] rfl (by decide)).2⟩ rfl rfl hl.1 rfl (lv_room (Nat.le_of_ble_eq_true rfl)) dX9_leftAtWorst_23 ⟨Nat.zero_le _, Nat.zero_le _⟩) hP (kb_D hD rfl) hS hA [1] rfl [(false, 0), (true, 0), (false, 2)] (w2 := [oX9 a_th q_theText q_theQuestion q_theCastle (.ref a_now) q_theActs q_theTold q_foresight q_keptMoments q_isKept q_marchWorlds (.long v_theSeed), oX4 a_now (.int v_now_date) (.int v_now_trueDay) (.int v_now_wasAsked) (.int v_now_clothState) (.int v_now_cracks) (.ref a_now_known), aI cI a_now_known 7 v_now_known]) rfl (by decide) (fun H locs hP hS => ?_)
        obtain ⟨r7, ho8, hm⟩ := bd1_s hm
        refine kb_calli (Rv := r7) (va_runS (As := [.ref a_now_known, .int p_1, .int x2, .int r5]) (rest := [.int x1]) ⟨hx, hb, hml, hown, hts⟩ (c_X8_countAnswered l dC dI cI cJ cZ cQ t H.size a_now_known 7 v_now_known p_1 x2 r5 (r7) ho8) (va_cwS 4 hts gX9_leftAtWorst_X8_countAnswered rfl rfl rfl (by decide +kernel) ⟨(Nat.le_of_ble_eq_true rfl), (Nat.le_of_ble_eq_true rfl)⟩) (kb_pre hK hG hP (kb_D hD rfl) hS hA [2] rfl (by decide)) rfl rfl hl.1 rfl (lv_room (Nat.le_of_ble_eq_true rfl)) dX9_leftAtWorst_26 ⟨Nat.zero_le _, Nat.zero_le _⟩) hP (kb_D hD rfl) hS hA [2] rfl [(false, 0), (false, 1), (true, 0)] (w2 := [oX9 a_th q_theText q_theQuestion q_theCastle (.ref a_now) q_theActs q_theTold q_foresight q_keptMoments q_isKept q_marchWorlds (.long v_theSeed), oX4 a_now (.int v_now_date) (.int v_now_trueDay) (.int v_now_wasAsked) (.int v_now_clothState) (.int v_now_cracks) (.ref a_now_known), aI cI a_now_known 7 v_now_known]) rfl (by decide) (fun H locs hP hS => ?_)
        refine va_mmax hx hb (by rw [hml]; exact hl.1.symm) hown ml239 ms239 mi239 mc239 (Nat.le_of_ble_eq_true rfl) (Nat.le_of_ble_eq_true rfl) (Nat.zero_le _) (Nat.zero_le _) dX9_leftAtWorst_29 ?_
        refine lv_topi (fun x9 ex9 => ?_)
        replace hm := nm_t ex9 hm
        refine lv_istore_n (lv' := [(2, .int x9), (0, .ref a_th), (1, .int p_1), (3, .int x2)]) hx hb dX9_leftAtWorst_32 rfl hl (by decide) rfl (fun ls hl => ?_)
        obtain ⟨x10, ex10⟩ : ∃ y : Int32, y = x2 + (1 : Int32) := ⟨_, rfl⟩
        replace hm := nm_t ex10 hm
        refine lv_iinc (v := x10) (lv' := [(3, .int x10), (2, .int x9), (0, .ref a_th), (1, .int p_1)]) hx hb dX9_leftAtWorst_33 hl (k := 3) rfl (by rw [ex10]; rfl) (by decide) rfl (fun ls hl => ?_)
        refine lv_goto (tgt := 4) hx hb dX9_leftAtWorst_36 (by decide) ?_
        exact ih4 x9 x10 k4 _ _ _ hm hk4 hP hS (lv_sub hl [2, 3, 1, 0] rfl)
  refine lp4 1024 (0 : Int32) (0 : Int32) _ _ _ _ hm (fun x3 H locs ls hm hP hS hl => ?_) hP hS (lv_sub hl [2, 3, 1, 0] rfl)
  refine lv_iload_n hx hb dX9_leftAtWorst_39 rfl (lv_at hl 0 rfl) ?_
  obtain rfl := Option.some.inj hm
  subst hQ
  exact W.iret hx hb hr (fun t ht hW => ⟨⟨_, (), rfl, rfl, kb_h hP ht⟩, hS.F ht⟩) hS.2.2 dX9_leftAtWorst_40
set_option maxHeartbeats 4000000 in
set_option maxRecDepth 100000 in
theorem c_X9_toAsk (l : Launch) (dC : Nat → ClassId) (dI : Nat → Nat → Nat) (cI cJ cZ cQ : ClassId) (t sz : Nat) (a_th : Nat) (a_theCastle : Nat) (a_now : Nat) (a_now_known : Nat) (q_theText : Value) (q_theQuestion : Value) (q_theActs : Value) (q_theTold : Value) (q_foresight : Value) (q_keptMoments : Value) (q_isKept : Value) (q_marchWorlds : Value) (v_theSeed : Int64) (v_theCastle_facts : Int32) (v_theCastle_so : Int32) (v_theCastle_common : Int32) (v_theCastle_cases : Int32) (v_theCastle_firstTrueDay : Int32) (v_now_date : Int32) (v_now_trueDay : Int32) (v_now_wasAsked : Int32) (v_now_clothState : Int32) (v_now_cracks : Int32) (v_now_known : (Nat → Int32)) (o : Int32) (hm : m_X9_toAsk v_theCastle_facts v_now_date v_now_known = some o) : Met l yX9_toAsk wsX9_toAsk { frames := 5, cells := 0, slots := 0, locals := 116 } (va_Pc [.ref a_th] (cP (dC, dI) (kT cI cJ cZ cQ) t sz [oX9 a_th q_theText q_theQuestion (.ref a_theCastle) (.ref a_now) q_theActs q_theTold q_foresight q_keptMoments q_isKept q_marchWorlds (.long v_theSeed), oX1 a_theCastle (.int v_theCastle_facts) (.int v_theCastle_so) (.int v_theCastle_common) (.int v_theCastle_cases) (.int v_theCastle_firstTrueDay), oX4 a_now (.int v_now_date) (.int v_now_trueDay) (.int v_now_wasAsked) (.int v_now_clothState) (.int v_now_cracks) (.ref a_now_known), aI cI a_now_known 7 v_now_known])) (cQi (dC, dI) (va_A [oX9 a_th q_theText q_theQuestion (.ref a_theCastle) (.ref a_now) q_theActs q_theTold q_foresight q_keptMoments q_isKept q_marchWorlds (.long v_theSeed), oX1 a_theCastle (.int v_theCastle_facts) (.int v_theCastle_so) (.int v_theCastle_common) (.int v_theCastle_cases) (.int v_theCastle_firstTrueDay), oX4 a_now (.int v_now_date) (.int v_now_trueDay) (.int v_now_wasAsked) (.int v_now_clothState) (.int v_now_cracks) (.ref a_now_known), aI cI a_now_known 7 v_now_known] sz) o [oX9 a_th q_theText q_theQuestion (.ref a_theCastle) (.ref a_now) q_theActs q_theTold q_foresight q_keptMoments q_isKept q_marchWorlds (.long v_theSeed), oX1 a_theCastle (.int v_theCastle_facts) (.int v_theCastle_so) (.int v_theCastle_common) (.int v_theCastle_cases) (.int v_theCastle_firstTrueDay), oX4 a_now (.int v_now_date) (.int v_now_trueDay) (.int v_now_wasAsked) (.int v_now_clothState) (.int v_now_cracks) (.ref a_now_known), aI cI a_now_known 7 v_now_known]) 0 0 (va_A [oX9 a_th q_theText q_theQuestion (.ref a_theCastle) (.ref a_now) q_theActs q_theTold q_foresight q_keptMoments q_isKept q_marchWorlds (.long v_theSeed), oX1 a_theCastle (.int v_theCastle_facts) (.int v_theCastle_so) (.int v_theCastle_common) (.int v_theCastle_cases) (.int v_theCastle_firstTrueDay), oX4 a_now (.int v_now_date) (.int v_now_trueDay) (.int v_now_wasAsked) (.int v_now_clothState) (.int v_now_cracks) (.ref a_now_known), aI cI a_now_known 7 v_now_known] sz) := by
  refine Met.ofW (cc := cX9_toAsk) (maxL := 5) (ret := (some .int)) (by decide) rfl ?_
  intro p e s m args below meth c s₁ B hml hv
  obtain ⟨rfl, hsz, hP, hK, hD0, hG⟩ := hv
  have hx := B.exec
  have hb := B.bytes
  have hr := B.returns
  have hts := atoms_spec (ws := wsX9_toAsk) B.pre
  have hown : s.vm.findClass RX9 = some m.cls := findClass_of_methodNamed B.named
  have hlocks := B.notSynchronized
  subst hsz
  have hD := hD0.self (sz := s.heap.size)
  generalize hAe : va_A [oX9 a_th q_theText q_theQuestion (.ref a_theCastle) (.ref a_now) q_theActs q_theTold q_foresight q_keptMoments q_isKept q_marchWorlds (.long v_theSeed), oX1 a_theCastle (.int v_theCastle_facts) (.int v_theCastle_so) (.int v_theCastle_common) (.int v_theCastle_cases) (.int v_theCastle_firstTrueDay), oX4 a_now (.int v_now_date) (.int v_now_trueDay) (.int v_now_wasAsked) (.int v_now_clothState) (.int v_now_cracks) (.ref a_now_known), aI cI a_now_known 7 v_now_known] s.heap.size = A at hD hG ⊢
  have hA : ∀ q : Nat, s.heap.size ≤ q → A q := fun q h => by rw [← hAe]; exact Or.inr h
  have hS : va_S A s.heap s.heap [] := va_S.rf
  have hl := lv_entry ([.ref a_th]) (n := 5) (Nat.le_of_ble_eq_true rfl)
  rw [lg_entry_eq]
  generalize (lg_sl ([.ref a_th]) ++ List.replicate (5 - (lg_sl ([.ref a_th])).length) Slot.unset).toArray = ls at hl ⊢
  have hl : lv_has ls 5 [(0, .ref a_th)] := hl
  have iX9 : ∀ w ∈ wsX90, w ∈ wsX9_toAsk := fun _ h => List.mem_cons_of_mem _ (List.mem_append_left _ (List.mem_append_left _ (List.mem_append_right _ h)))
  have iX1 : ∀ w ∈ wsX10, w ∈ wsX9_toAsk := fun _ h => List.mem_cons_of_mem _ (List.mem_append_left _ (List.mem_append_right _ h))
  have iX4 : ∀ w ∈ wsX40, w ∈ wsX9_toAsk := fun _ h => List.mem_cons_of_mem _ (List.mem_append_right _ h)
  have f28 := hts (.fieldLink RX9 28 "TrueOnceWeek" "theCastle" "LTrueOnceWeek$Castle;") (by decide +kernel)
  refine kb_gen (fun Q hQ => ?_)
  unfold m_X9_toAsk at hm
  refine lv_bipush (v := (-9 : Int32)) hx hb dX9_toAsk_0 (by decide) ?_
  refine lv_istore_n (lv' := [(1, .int (-9 : Int32)), (0, .ref a_th)]) hx hb dX9_toAsk_2 rfl hl (by decide) rfl (fun ls hl => ?_)
  refine lv_iconst (v := (0 : Int32)) hx hb dX9_toAsk_3 (by decide) ?_
  refine lv_istore_n (lv' := [(2, .int (0 : Int32)), (1, .int (-9 : Int32)), (0, .ref a_th)]) hx hb dX9_toAsk_4 rfl hl (by decide) rfl (fun ls hl => ?_)
  refine lv_iconst (v := (0 : Int32)) hx hb dX9_toAsk_5 (by decide) ?_
  refine lv_istore_n (lv' := [(3, .int (0 : Int32)), (2, .int (0 : Int32)), (1, .int (-9 : Int32)), (0, .ref a_th)]) hx hb dX9_toAsk_6 rfl hl (by decide) rfl (fun ls hl => ?_)
  have lp7 : ∀ (n7 : Nat) (x1 : Int32) (x2 : Int32) (x3 : Int32) (k7 : Int32 → Option (Int32)) (H : Heap) (locs : List Loc) (ls : Array Slot), L_X9_toAsk_7 v_theCastle_facts v_now_date v_now_known n7 x1 x2 x3 k7 = some o → (∀ (x4 : Int32) (H : Heap) (locs : List Loc) (ls : Array Slot), k7 x4 = some o → va_P (dC, dI) vwCl [oX9 a_th q_theText q_theQuestion (.ref a_theCastle) (.ref a_now) q_theActs q_theTold q_foresight q_keptMoments q_isKept q_marchWorlds (.long v_theSeed), oX1 a_theCastle (.int v_theCastle_facts) (.int v_theCastle_so) (.int v_theCastle_common) (.int v_theCastle_cases) (.int v_theCastle_firstTrueDay), oX4 a_now (.int v_now_date) (.int v_now_trueDay) (.int v_now_wasAsked) (.int v_now_clothState) (.int v_now_cracks) (.ref a_now_known), aI cI a_now_known 7 v_now_known] H → va_S A s.heap H locs → lv_has ls 5 [(1, .int x4)] → W p l e (headSpec wsX9_toAsk { frames := 5, cells := 0, slots := 0, locals := 116 }).room s m [.ref a_th].toArray below meth c H locs 0 0 Q (F0 m 54 ls [])) → va_P (dC, dI) vwCl [oX9 a_th q_theText q_theQuestion (.ref a_theCastle) (.ref a_now) q_theActs q_theTold q_foresight q_keptMoments q_isKept q_marchWorlds (.long v_theSeed), oX1 a_theCastle (.int v_theCastle_facts) (.int v_theCastle_so) (.int v_theCastle_common) (.int v_theCastle_cases) (.int v_theCastle_firstTrueDay), oX4 a_now (.int v_now_date) (.int v_now_trueDay) (.int v_now_wasAsked) (.int v_now_clothState) (.int v_now_cracks) (.ref a_now_known), aI cI a_now_known 7 v_now_known] H → va_S A s.heap H locs → lv_has ls 5 [(0, .ref a_th), (1, .int x1), (2, .int x2), (3, .int x3)] → W p l e (headSpec wsX9_toAsk { frames := 5, cells := 0, slots := 0, locals := 116 }).room s m [.ref a_th].toArray below meth c H locs 0 0 Q (F0 m 7 ls []) := by
    intro n7
    induction n7 with
    | zero =>
      intro x1 x2 x3 k7 H locs ls hm
      cases (show (none : Option (Int32)) = some o from hm)
    | succ n7 ih7 =>
      intro x1 x2 x3 k7 H locs ls hm hk7 hP hS hl
      rw [L_X9_toAsk_7.eq_2] at hm
      refine lv_iload_n hx hb dX9_toAsk_7 rfl (lv_at hl 3 rfl) ?_
      refine lv_bipush (v := (19 : Int32)) hx hb dX9_toAsk_8 (by decide) ?_
      refine lv_icmp_ge (tgt := 54) hx hb dX9_toAsk_10 (by decide) (fun c5 => ?_) (fun c5 => ?_)
      · replace hm := ite_t c5 hm
        exact hk7 x1 _ _ _ hm hP hS (lv_sub hl [1] rfl)
      · replace hm := ite_f c5 hm
        refine lv_aload_n hx hb dX9_toAsk_13 rfl (lv_at hl 0 rfl) ?_
        refine va_get (D := (dC, dI)) (ci := 7) (v := .ref a_theCastle) (C := RX9) (T := TX9) (N := 11) hx hb hts iX9 hown hK hP 0 rfl rfl 2 (by decide) f28 (fun _ h9 => h9) rfl dX9_toAsk_14 ?_
        refine lv_iload_n hx hb dX9_toAsk_17 rfl (lv_at hl 3 rfl) ?_
        obtain ⟨r6, ho7, hm⟩ := bd1_s hm
        refine kb_calli (Rv := r6) (va_runV (As := [.int x3]) (rest := []) ⟨hx, hb, hml, hown, hts⟩ (c_X1_hasSimple l dC dI cI cJ cZ cQ t H.size a_theCastle v_theCastle_facts v_theCastle_so v_theCastle_common v_theCastle_cases v_theCastle_firstTrueDay x3 (r6) ho7) (cwV 1 hts gX9_toAsk_X1_hasSimple rfl rfl rfl (by decide +kernel) ⟨(Nat.le_of_ble_eq_true rfl), (Nat.le_of_ble_eq_true rfl)⟩) ⟨(kb_pre hK hG hP (kb_D hD rfl) hS hA [1] rfl (by decide)).1, (va_recv hK hP (ci := 1) (q0 := 1) rfl rfl), (kb_pre hK hG hP (kb_D hD rfl) hS hA [1] rfl (by decide)).2⟩ rfl rfl hl.1 rfl (lv_room (Nat.le_of_ble_eq_true rfl)) dX9_toAsk_18 ⟨Nat.zero_le _, Nat.zero_le _⟩) hP (kb_D hD rfl) hS hA [1] rfl [(false, 0), (true, 0), (false, 2), (false, 3)] (w2 := [oX9 a_th q_theText q_theQuestion (.ref a_theCastle) (.ref a_now) q_theActs q_theTold q_foresight q_keptMoments q_isKept q_marchWorlds (.long v_theSeed), oX1 a_theCastle (.int v_theCastle_facts) (.int v_theCastle_so) (.int v_theCastle_common) (.int v_theCastle_cases) (.int v_theCastle_firstTrueDay), oX4 a_now (.int v_now_date) (.int v_now_trueDay) (.int v_now_wasAsked) (.int v_now_clothState) (.int v_now_cracks) (.ref a_now_known), aI cI a_now_known 7 v_now_known]) rfl (by decide) (fun H locs hP hS => ?_)
        obtain ⟨k48, ek48, hm⟩ := nm_s hm
        have J48 : ∀ (x8 : Int32) (x9 : Int32) (H : Heap) (locs : List Loc) (ls : Array Slot), k48 x8 x9 = some o → va_P (dC, dI) vwCl [oX9 a_th q_theText q_theQuestion (.ref a_theCastle) (.ref a_now) q_theActs q_theTold q_foresight q_keptMoments q_isKept q_marchWorlds (.long v_theSeed), oX1 a_theCastle (.int v_theCastle_facts) (.int v_theCastle_so) (.int v_theCastle_common) (.int v_theCastle_cases) (.int v_theCastle_firstTrueDay), oX4 a_now (.int v_now_date) (.int v_now_trueDay) (.int v_now_wasAsked) (.int v_now_clothState) (.int v_now_cracks) (.ref a_now_known), aI cI a_now_known 7 v_now_known] H → va_S A s.heap H locs → lv_has ls 5 [(0, .ref a_th), (1, .int x8), (2, .int x9), (3, .int x3)] → W p l e (headSpec wsX9_toAsk { frames := 5, cells := 0, slots := 0, locals := 116 }).room s m [.ref a_th].toArray below meth c H locs 0 0 Q (F0 m 48 ls []) := by
          intro x8 x9 H locs ls hm hP hS hl
          rw [ek48] at hm
          obtain ⟨x10, ex10⟩ : ∃ y : Int32, y = x3 + (1 : Int32) := ⟨_, rfl⟩
          replace hm := nm_t ex10 hm
          refine lv_iinc (v := x10) (lv' := [(3, .int x10), (0, .ref a_th), (1, .int x8), (2, .int x9)]) hx hb dX9_toAsk_48 hl (k := 3) rfl (by rw [ex10]; rfl) (by decide) rfl (fun ls hl => ?_)
          refine lv_goto (tgt := 7) hx hb dX9_toAsk_51 (by decide) ?_
          exact ih7 x8 x9 x10 k7 _ _ _ hm hk7 hP hS (lv_sub hl [1, 2, 3, 0] rfl)
        refine lv_if_eq (tgt := 48) hx hb dX9_toAsk_21 (by decide) (fun c11 => ?_) (fun c11 => ?_)
        · replace hm := ite_t c11 hm
          exact J48 x1 x2 _ _ _ hm hP hS (lv_sub hl [0, 1, 2, 3] rfl)
        · replace hm := ite_f c11 hm
          refine lv_aload_n hx hb dX9_toAsk_24 rfl (lv_at hl 0 rfl) ?_
          refine lv_iload_n hx hb dX9_toAsk_25 rfl (lv_at hl 3 rfl) ?_
          obtain ⟨r12, ho13, hm⟩ := bd1_s hm
          refine kb_calli (Rv := r12) (va_runV (As := [.int x3]) (rest := []) ⟨hx, hb, hml, hown, hts⟩ (c_X9_leftAtWorst l dC dI cI cJ cZ cQ t H.size a_th a_now a_now_known q_theText q_theQuestion (.ref a_theCastle) q_theActs q_theTold q_foresight q_keptMoments q_isKept q_marchWorlds v_theSeed v_now_date v_now_trueDay v_now_wasAsked v_now_clothState v_now_cracks v_now_known x3 (r12) ho13) (cwV 1 hts gX9_toAsk_X9_leftAtWorst rfl rfl rfl (by decide +kernel) ⟨(Nat.le_of_ble_eq_true rfl), (Nat.le_of_ble_eq_true rfl)⟩) ⟨(kb_pre hK hG hP (kb_D hD rfl) hS hA [0, 2, 3] rfl (by decide)).1, (va_recv hK hP (ci := 7) (q0 := 0) rfl rfl), (kb_pre hK hG hP (kb_D hD rfl) hS hA [0, 2, 3] rfl (by decide)).2⟩ rfl rfl hl.1 rfl (lv_room (Nat.le_of_ble_eq_true rfl)) dX9_toAsk_26 ⟨Nat.zero_le _, Nat.zero_le _⟩) hP (kb_D hD rfl) hS hA [0, 2, 3] rfl [(true, 0), (false, 1), (true, 1), (true, 2)] (w2 := [oX9 a_th q_theText q_theQuestion (.ref a_theCastle) (.ref a_now) q_theActs q_theTold q_foresight q_keptMoments q_isKept q_marchWorlds (.long v_theSeed), oX1 a_theCastle (.int v_theCastle_facts) (.int v_theCastle_so) (.int v_theCastle_common) (.int v_theCastle_cases) (.int v_theCastle_firstTrueDay), oX4 a_now (.int v_now_date) (.int v_now_trueDay) (.int v_now_wasAsked) (.int v_now_clothState) (.int v_now_cracks) (.ref a_now_known), aI cI a_now_known 7 v_now_known]) rfl (by decide) (fun H locs hP hS => ?_)
          refine lv_istore (lv' := [(4, .int r12), (0, .ref a_th), (1, .int x1), (2, .int x2), (3, .int x3)]) hx hb dX9_toAsk_29 hl (by decide) rfl (fun ls hl => ?_)
          refine lv_iload_n hx hb dX9_toAsk_31 rfl (lv_at hl 2 rfl) ?_
          refine lv_bipush (v := (-9 : Int32)) hx hb dX9_toAsk_32 (by decide) ?_
          obtain ⟨k43, ek43, hm⟩ := nm_s hm
          have J43 : ∀ (H : Heap) (locs : List Loc) (ls : Array Slot), k43 = some o → va_P (dC, dI) vwCl [oX9 a_th q_theText q_theQuestion (.ref a_theCastle) (.ref a_now) q_theActs q_theTold q_foresight q_keptMoments q_isKept q_marchWorlds (.long v_theSeed), oX1 a_theCastle (.int v_theCastle_facts) (.int v_theCastle_so) (.int v_theCastle_common) (.int v_theCastle_cases) (.int v_theCastle_firstTrueDay), oX4 a_now (.int v_now_date) (.int v_now_trueDay) (.int v_now_wasAsked) (.int v_now_clothState) (.int v_now_cracks) (.ref a_now_known), aI cI a_now_known 7 v_now_known] H → va_S A s.heap H locs → lv_has ls 5 [(0, .ref a_th), (3, .int x3), (4, .int r12)] → W p l e (headSpec wsX9_toAsk { frames := 5, cells := 0, slots := 0, locals := 116 }).room s m [.ref a_th].toArray below meth c H locs 0 0 Q (F0 m 43 ls []) := by
            intro  H locs ls hm hP hS hl
            rw [ek43] at hm
            refine lv_iload hx hb dX9_toAsk_43 (lv_at hl 2 rfl) ?_
            refine lv_istore_n (lv' := [(2, .int r12), (0, .ref a_th), (3, .int x3), (4, .int r12)]) hx hb dX9_toAsk_45 rfl hl (by decide) rfl (fun ls hl => ?_)
            refine lv_iload_n hx hb dX9_toAsk_46 rfl (lv_at hl 2 rfl) ?_
            refine lv_istore_n (lv' := [(1, .int x3), (2, .int r12), (0, .ref a_th), (3, .int x3), (4, .int r12)]) hx hb dX9_toAsk_47 rfl hl (by decide) rfl (fun ls hl => ?_)
            exact J48 x3 r12 _ _ _ hm hP hS (lv_sub hl [2, 0, 1, 3] rfl)
          refine lv_icmp_eq (tgt := 43) hx hb dX9_toAsk_34 (by decide) (fun c14 => ?_) (fun c14 => ?_)
          · replace hm := ite_t c14 hm
            exact J43  _ _ _ hm hP hS (lv_sub hl [1, 4, 0] rfl)
          · replace hm := ite_f c14 hm
            refine lv_iload hx hb dX9_toAsk_37 (lv_at hl 0 rfl) ?_
            refine lv_iload_n hx hb dX9_toAsk_39 rfl (lv_at hl 3 rfl) ?_
            refine lv_icmp_ge (tgt := 48) hx hb dX9_toAsk_40 (by decide) (fun c15 => ?_) (fun c15 => ?_)
            · replace hm := ite_t c15 hm
              exact J48 x1 x2 _ _ _ hm hP hS (lv_sub hl [1, 2, 3, 4] rfl)
            · replace hm := ite_f c15 hm
              exact J43  _ _ _ hm hP hS (lv_sub hl [1, 4, 0] rfl)
  refine lp7 1024 (-9 : Int32) (0 : Int32) (0 : Int32) _ _ _ _ hm (fun x4 H locs ls hm hP hS hl => ?_) hP hS (lv_sub hl [3, 2, 1, 0] rfl)
  refine lv_iload_n hx hb dX9_toAsk_54 rfl (lv_at hl 0 rfl) ?_
  obtain rfl := Option.some.inj hm
  subst hQ
  exact W.iret hx hb hr (fun t ht hW => ⟨⟨_, (), rfl, rfl, kb_h hP ht⟩, hS.F ht⟩) hS.2.2 dX9_toAsk_55
set_option maxHeartbeats 4000000 in
set_option maxRecDepth 100000 in
theorem c_X9_dumb (l : Launch) (dC : Nat → ClassId) (dI : Nat → Nat → Nat) (cI cJ cZ cQ : ClassId) (t sz : Nat) (a_th : Nat) (a_theCastle : Nat) (a_now : Nat) (a_now_known : Nat) (q_theText : Value) (q_theQuestion : Value) (q_theActs : Value) (q_theTold : Value) (q_foresight : Value) (q_keptMoments : Value) (q_isKept : Value) (q_marchWorlds : Value) (v_theSeed : Int64) (v_theCastle_facts : Int32) (v_theCastle_so : Int32) (v_theCastle_common : Int32) (v_theCastle_cases : Int32) (v_theCastle_firstTrueDay : Int32) (v_now_date : Int32) (v_now_trueDay : Int32) (v_now_wasAsked : Int32) (v_now_clothState : Int32) (v_now_cracks : Int32) (v_now_known : (Nat → Int32)) (o : Int32) (hm : m_X9_dumb v_theCastle_facts v_now_date v_now_known = some o) : Met l yX9_dumb wsX9_dumb { frames := 4, cells := 0, slots := 0, locals := 93 } (va_Pc [.ref a_th] (cP (dC, dI) (kT cI cJ cZ cQ) t sz [oX9 a_th q_theText q_theQuestion (.ref a_theCastle) (.ref a_now) q_theActs q_theTold q_foresight q_keptMoments q_isKept q_marchWorlds (.long v_theSeed), oX1 a_theCastle (.int v_theCastle_facts) (.int v_theCastle_so) (.int v_theCastle_common) (.int v_theCastle_cases) (.int v_theCastle_firstTrueDay), oX4 a_now (.int v_now_date) (.int v_now_trueDay) (.int v_now_wasAsked) (.int v_now_clothState) (.int v_now_cracks) (.ref a_now_known), aI cI a_now_known 7 v_now_known])) (cQi (dC, dI) (va_A [oX9 a_th q_theText q_theQuestion (.ref a_theCastle) (.ref a_now) q_theActs q_theTold q_foresight q_keptMoments q_isKept q_marchWorlds (.long v_theSeed), oX1 a_theCastle (.int v_theCastle_facts) (.int v_theCastle_so) (.int v_theCastle_common) (.int v_theCastle_cases) (.int v_theCastle_firstTrueDay), oX4 a_now (.int v_now_date) (.int v_now_trueDay) (.int v_now_wasAsked) (.int v_now_clothState) (.int v_now_cracks) (.ref a_now_known), aI cI a_now_known 7 v_now_known] sz) o [oX9 a_th q_theText q_theQuestion (.ref a_theCastle) (.ref a_now) q_theActs q_theTold q_foresight q_keptMoments q_isKept q_marchWorlds (.long v_theSeed), oX1 a_theCastle (.int v_theCastle_facts) (.int v_theCastle_so) (.int v_theCastle_common) (.int v_theCastle_cases) (.int v_theCastle_firstTrueDay), oX4 a_now (.int v_now_date) (.int v_now_trueDay) (.int v_now_wasAsked) (.int v_now_clothState) (.int v_now_cracks) (.ref a_now_known), aI cI a_now_known 7 v_now_known]) 0 0 (va_A [oX9 a_th q_theText q_theQuestion (.ref a_theCastle) (.ref a_now) q_theActs q_theTold q_foresight q_keptMoments q_isKept q_marchWorlds (.long v_theSeed), oX1 a_theCastle (.int v_theCastle_facts) (.int v_theCastle_so) (.int v_theCastle_common) (.int v_theCastle_cases) (.int v_theCastle_firstTrueDay), oX4 a_now (.int v_now_date) (.int v_now_trueDay) (.int v_now_wasAsked) (.int v_now_clothState) (.int v_now_cracks) (.ref a_now_known), aI cI a_now_known 7 v_now_known] sz) := by
  refine Met.ofW (cc := cX9_dumb) (maxL := 3) (ret := (some .int)) (by decide) rfl ?_
  intro p e s m args below meth c s₁ B hml hv
  obtain ⟨rfl, hsz, hP, hK, hD0, hG⟩ := hv
  have hx := B.exec
  have hb := B.bytes
  have hr := B.returns
  have hts := atoms_spec (ws := wsX9_dumb) B.pre
  have hown : s.vm.findClass RX9 = some m.cls := findClass_of_methodNamed B.named
  have hlocks := B.notSynchronized
  subst hsz
  have hD := hD0.self (sz := s.heap.size)
  generalize hAe : va_A [oX9 a_th q_theText q_theQuestion (.ref a_theCastle) (.ref a_now) q_theActs q_theTold q_foresight q_keptMoments q_isKept q_marchWorlds (.long v_theSeed), oX1 a_theCastle (.int v_theCastle_facts) (.int v_theCastle_so) (.int v_theCastle_common) (.int v_theCastle_cases) (.int v_theCastle_firstTrueDay), oX4 a_now (.int v_now_date) (.int v_now_trueDay) (.int v_now_wasAsked) (.int v_now_clothState) (.int v_now_cracks) (.ref a_now_known), aI cI a_now_known 7 v_now_known] s.heap.size = A at hD hG ⊢
  have hA : ∀ q : Nat, s.heap.size ≤ q → A q := fun q h => by rw [← hAe]; exact Or.inr h
  have hS : va_S A s.heap s.heap [] := va_S.rf
  have hl := lv_entry ([.ref a_th]) (n := 3) (Nat.le_of_ble_eq_true rfl)
  rw [lg_entry_eq]
  generalize (lg_sl ([.ref a_th]) ++ List.replicate (3 - (lg_sl ([.ref a_th])).length) Slot.unset).toArray = ls at hl ⊢
  have hl : lv_has ls 3 [(0, .ref a_th)] := hl
  have iX9 : ∀ w ∈ wsX90, w ∈ wsX9_dumb := fun _ h => List.mem_cons_of_mem _ (List.mem_append_left _ (List.mem_append_left _ (List.mem_append_right _ h)))
  have iX4 : ∀ w ∈ wsX40, w ∈ wsX9_dumb := fun _ h => List.mem_cons_of_mem _ (List.mem_append_left _ (List.mem_append_right _ h))
  have iX1 : ∀ w ∈ wsX10, w ∈ wsX9_dumb := fun _ h => List.mem_cons_of_mem _ (List.mem_append_right _ h)
  have f28 := hts (.fieldLink RX9 28 "TrueOnceWeek" "theCastle" "LTrueOnceWeek$Castle;") (by decide +kernel)
  have f35 := hts (.fieldLink RX9 35 "TrueOnceWeek" "now" "LTrueOnceWeek$Moment;") (by decide +kernel)
  have f113 := va_Nw.use (A := [.ref a_th].toArray) (w := .fieldLinkNest RX9 113 "TrueOnceWeek$Moment" "known" "[I" "TrueOnceWeek") rfl (hG.1 (RX9, 113, "TrueOnceWeek$Moment", "known", "[I") (by decide +kernel))
  refine kb_gen (fun Q hQ => ?_)
  unfold m_X9_dumb at hm
  refine lv_iconst (v := (0 : Int32)) hx hb dX9_dumb_0 (by decide) ?_
  refine lv_istore_n (lv' := [(1, .int (0 : Int32)), (0, .ref a_th)]) hx hb dX9_dumb_1 rfl hl (by decide) rfl (fun ls hl => ?_)
  refine lv_iconst (v := (0 : Int32)) hx hb dX9_dumb_2 (by decide) ?_
  refine lv_istore_n (lv' := [(2, .int (0 : Int32)), (1, .int (0 : Int32)), (0, .ref a_th)]) hx hb dX9_dumb_3 rfl hl (by decide) rfl (fun ls hl => ?_)
  have lp4 : ∀ (n4 : Nat) (x1 : Int32) (x2 : Int32) (k4 : Int32 → Option (Int32)) (H : Heap) (locs : List Loc) (ls : Array Slot), L_X9_dumb_4 v_theCastle_facts v_now_date v_now_known n4 x1 x2 k4 = some o → (∀ (x3 : Int32) (H : Heap) (locs : List Loc) (ls : Array Slot), k4 x3 = some o → va_P (dC, dI) vwCl [oX9 a_th q_theText q_theQuestion (.ref a_theCastle) (.ref a_now) q_theActs q_theTold q_foresight q_keptMoments q_isKept q_marchWorlds (.long v_theSeed), oX1 a_theCastle (.int v_theCastle_facts) (.int v_theCastle_so) (.int v_theCastle_common) (.int v_theCastle_cases) (.int v_theCastle_firstTrueDay), oX4 a_now (.int v_now_date) (.int v_now_trueDay) (.int v_now_wasAsked) (.int v_now_clothState) (.int v_now_cracks) (.ref a_now_known), aI cI a_now_known 7 v_now_known] H → va_S A s.heap H locs → lv_has ls 3 [(1, .int x3)] → W p l e (headSpec wsX9_dumb { frames := 4, cells := 0, slots := 0, locals := 93 }).room s m [.ref a_th].toArray below meth c H locs 0 0 Q (F0 m 55 ls [])) → va_P (dC, dI) vwCl [oX9 a_th q_theText q_theQuestion (.ref a_theCastle) (.ref a_now) q_theActs q_theTold q_foresight q_keptMoments q_isKept q_marchWorlds (.long v_theSeed), oX1 a_theCastle (.int v_theCastle_facts) (.int v_theCastle_so) (.int v_theCastle_common) (.int v_theCastle_cases) (.int v_theCastle_firstTrueDay), oX4 a_now (.int v_now_date) (.int v_now_trueDay) (.int v_now_wasAsked) (.int v_now_clothState) (.int v_now_cracks) (.ref a_now_known), aI cI a_now_known 7 v_now_known] H → va_S A s.heap H locs → lv_has ls 3 [(0, .ref a_th), (1, .int x1), (2, .int x2)] → W p l e (headSpec wsX9_dumb { frames := 4, cells := 0, slots := 0, locals := 93 }).room s m [.ref a_th].toArray below meth c H locs 0 0 Q (F0 m 4 ls []) := by
    intro n4
    induction n4 with
    | zero =>
      intro x1 x2 k4 H locs ls hm
      cases (show (none : Option (Int32)) = some o from hm)
    | succ n4 ih4 =>
      intro x1 x2 k4 H locs ls hm hk4 hP hS hl
      rw [L_X9_dumb_4.eq_2] at hm
      refine lv_iload_n hx hb dX9_dumb_4 rfl (lv_at hl 2 rfl) ?_
      refine lv_bipush (v := (19 : Int32)) hx hb dX9_dumb_5 (by decide) ?_
      refine lv_icmp_ge (tgt := 55) hx hb dX9_dumb_7 (by decide) (fun c4 => ?_) (fun c4 => ?_)
      · replace hm := ite_t c4 hm
        exact hk4 x1 _ _ _ hm hP hS (lv_sub hl [1] rfl)
      · replace hm := ite_f c4 hm
        refine lv_aload_n hx hb dX9_dumb_10 rfl (lv_at hl 0 rfl) ?_
        refine va_get (D := (dC, dI)) (ci := 7) (v := .ref a_theCastle) (C := RX9) (T := TX9) (N := 11) hx hb hts iX9 hown hK hP 0 rfl rfl 2 (by decide) f28 (fun _ h9 => h9) rfl dX9_dumb_11 ?_
        refine lv_iload_n hx hb dX9_dumb_14 rfl (lv_at hl 2 rfl) ?_
        obtain ⟨r5, ho6, hm⟩ := bd1_s hm
        refine kb_calli (Rv := r5) (va_runV (As := [.int x2]) (rest := []) ⟨hx, hb, hml, hown, hts⟩ (c_X1_hasSimple l dC dI cI cJ cZ cQ t H.size a_theCastle v_theCastle_facts v_theCastle_so v_theCastle_common v_theCastle_cases v_theCastle_firstTrueDay x2 (r5) ho6) (cwV 1 hts gX9_dumb_X1_hasSimple rfl rfl rfl (by decide +kernel) ⟨(Nat.le_of_ble_eq_true rfl), (Nat.le_of_ble_eq_true rfl)⟩) ⟨(kb_pre hK hG hP (kb_D hD rfl) hS hA [1] rfl (by decide)).1, (va_recv hK hP (ci := 1) (q0 := 1) rfl rfl), (kb_pre hK hG hP (kb_D hD rfl) hS hA [1] rfl (by decide)).2⟩ rfl rfl hl.1 rfl (lv_room (Nat.le_of_ble_eq_true rfl)) dX9_dumb_15 ⟨Nat.zero_le _, Nat.zero_le _⟩) hP (kb_D hD rfl) hS hA [1] rfl [(false, 0), (true, 0), (false, 2), (false, 3)] (w2 := [oX9 a_th q_theText q_theQuestion (.ref a_theCastle) (.ref a_now) q_theActs q_theTold q_foresight q_keptMoments q_isKept q_marchWorlds (.long v_theSeed), oX1 a_theCastle (.int v_theCastle_facts) (.int v_theCastle_so) (.int v_theCastle_common) (.int v_theCastle_cases) (.int v_theCastle_firstTrueDay), oX4 a_now (.int v_now_date) (.int v_now_trueDay) (.int v_now_wasAsked) (.int v_now_clothState) (.int v_now_cracks) (.ref a_now_known), aI cI a_now_known 7 v_now_known]) rfl (by decide) (fun H locs hP hS => ?_)
        obtain ⟨k49, ek49, hm⟩ := nm_s hm
        have J49 : ∀ (x7 : Int32) (H : Heap) (locs : List Loc) (ls : Array Slot), k49 x7 = some o → va_P (dC, dI) vwCl [oX9 a_th q_theText q_theQuestion (.ref a_theCastle) (.ref a_now) q_theActs q_theTold q_foresight q_keptMoments q_isKept q_marchWorlds (.long v_theSeed), oX1 a_theCastle (.int v_theCastle_facts) (.int v_theCastle_so) (.int v_theCastle_common) (.int v_theCastle_cases) (.int v_theCastle_firstTrueDay), oX4 a_now (.int v_now_date) (.int v_now_trueDay) (.int v_now_wasAsked) (.int v_now_clothState) (.int v_now_cracks) (.ref a_now_known), aI cI a_now_known 7 v_now_known] H → va_S A s.heap H locs → lv_has ls 3 [(0, .ref a_th), (1, .int x7), (2, .int x2)] → W p l e (headSpec wsX9_dumb { frames := 4, cells := 0, slots := 0, locals := 93 }).room s m [.ref a_th].toArray below meth c H locs 0 0 Q (F0 m 49 ls []) := by
          intro x7 H locs ls hm hP hS hl
          rw [ek49] at hm
          obtain ⟨x8, ex8⟩ : ∃ y : Int32, y = x2 + (1 : Int32) := ⟨_, rfl⟩
          replace hm := nm_t ex8 hm
          refine lv_iinc (v := x8) (lv' := [(2, .int x8), (0, .ref a_th), (1, .int x7)]) hx hb dX9_dumb_49 hl (k := 2) rfl (by rw [ex8]; rfl) (by decide) rfl (fun ls hl => ?_)
          refine lv_goto (tgt := 4) hx hb dX9_dumb_52 (by decide) ?_
          exact ih4 x7 x8 k4 _ _ _ hm hk4 hP hS (lv_sub hl [1, 2, 0] rfl)
        refine lv_if_eq (tgt := 49) hx hb dX9_dumb_18 (by decide) (fun c9 => ?_) (fun c9 => ?_)
        · replace hm := ite_t c9 hm
          exact J49 x1 _ _ _ hm hP hS (lv_sub hl [0, 1, 2] rfl)
        · replace hm := ite_f c9 hm
          refine lv_aload_n hx hb dX9_dumb_21 rfl (lv_at hl 0 rfl) ?_
          refine va_get (D := (dC, dI)) (ci := 7) (v := .ref a_now) (C := RX9) (T := TX9) (N := 11) hx hb hts iX9 hown hK hP 0 rfl rfl 3 (by decide) f35 (fun _ h9 => h9) rfl dX9_dumb_22 ?_
          refine va_getN (D := (dC, dI)) (ci := 4) (v := .ref a_now_known) (C := RX4) (T := TX4) (N := 6) hx hb hts iX4 hown hK hP 2 rfl rfl 5 (by decide) f113 (fun _ h9 => h9) rfl dX9_dumb_25 ?_
          refine lv_iload_n hx hb dX9_dumb_28 rfl (lv_at hl 2 rfl) ?_
          refine lv_iconst (v := (2 : Int32)) hx hb dX9_dumb_29 (by decide) ?_
          refine lv_aload_n hx hb dX9_dumb_30 rfl (lv_at hl 0 rfl) ?_
          refine va_get (D := (dC, dI)) (ci := 7) (v := .ref a_now) (C := RX9) (T := TX9) (N := 11) hx hb hts iX9 hown hK hP 0 rfl rfl 3 (by decide) f35 (fun _ h9 => h9) rfl dX9_dumb_31 ?_
          obtain ⟨r10, ho11, hm⟩ := bd1_s hm
          refine kb_calli (Rv := r10) (va_runV (As := []) (rest := [.int (2 : Int32), .int x2, .ref a_now_known]) ⟨hx, hb, hml, hown, hts⟩ (c_X4_weekday l dC dI cI cJ cZ cQ t H.size a_now (.ref a_now_known) v_now_date v_now_trueDay v_now_wasAsked v_now_clothState v_now_cracks (r10) ho11) (cwV 0 hts gX9_dumb_X4_weekday rfl rfl rfl (by decide +kernel) ⟨(Nat.le_of_ble_eq_true rfl), (Nat.le_of_ble_eq_true rfl)⟩) ⟨(kb_pre hK hG hP (kb_D hD rfl) hS hA [2] rfl (by decide)).1, (va_recv hK hP (ci := 4) (q0 := 2) rfl rfl), (kb_pre hK hG hP (kb_D hD rfl) hS hA [2] rfl (by decide)).2⟩ rfl rfl hl.1 rfl (lv_room (Nat.le_of_ble_eq_true rfl)) dX9_dumb_34 ⟨Nat.zero_le _, Nat.zero_le _⟩) hP (kb_D hD rfl) hS hA [2] rfl [(false, 0), (false, 1), (true, 0), (false, 3)] (w2 := [oX9 a_th q_theText q_theQuestion (.ref a_theCastle) (.ref a_now) q_theActs q_theTold q_foresight q_keptMoments q_isKept q_marchWorlds (.long v_theSeed), oX1 a_theCastle (.int v_theCastle_facts) (.int v_theCastle_so) (.int v_theCastle_common) (.int v_theCastle_cases) (.int v_theCastle_firstTrueDay), oX4 a_now (.int v_now_date) (.int v_now_trueDay) (.int v_now_wasAsked) (.int v_now_clothState) (.int v_now_cracks) (.ref a_now_known), aI cI a_now_known 7 v_now_known]) rfl (by decide) (fun H locs hP hS => ?_)
          obtain ⟨r12, ho13, hm⟩ := bd1_s hm
          refine kb_calli (Rv := r12) (va_runS (As := [.ref a_now_known, .int x2, .int (2 : Int32), .int r10]) (rest := []) ⟨hx, hb, hml, hown, hts⟩ (c_X8_countAnswered l dC dI cI cJ cZ cQ t H.size a_now_known 7 v_now_known x2 (2 : Int32) r10 (r12) ho13) (va_cwS 4 hts gX9_dumb_X8_countAnswered rfl rfl rfl (by decide +kernel) ⟨(Nat.le_of_ble_eq_true rfl), (Nat.le_of_ble_eq_true rfl)⟩) (kb_pre hK hG hP (kb_D hD rfl) hS hA [3] rfl (by decide)) rfl rfl hl.1 rfl (lv_room (Nat.le_of_ble_eq_true rfl)) dX9_dumb_37 ⟨Nat.zero_le _, Nat.zero_le _⟩) hP (kb_D hD rfl) hS hA [3] rfl [(false, 0), (false, 1), (false, 2), (true, 0)] (w2 := [oX9 a_th q_theText q_theQuestion (.ref a_theCastle) (.ref a_now) q_theActs q_theTold q_foresight q_keptMoments q_isKept q_marchWorlds (.long v_theSeed), oX1 a_theCastle (.int v_theCastle_facts) (.int v_theCastle_so) (.int v_theCastle_common) (.int v_theCastle_cases) (.int v_theCastle_firstTrueDay), oX4 a_now (.int v_now_date) (.int v_now_trueDay) (.int v_now_wasAsked) (.int v_now_clothState) (.int v_now_cracks) (.ref a_now_known), aI cI a_now_known 7 v_now_known]) rfl (by decide) (fun H locs hP hS => ?_)
          refine lv_if_le (tgt := 49) hx hb dX9_dumb_40 (by decide) (fun c14 => ?_) (fun c14 => ?_)
          · replace hm := ite_t c14 hm
            exact J49 x1 _ _ _ hm hP hS (lv_sub hl [0, 1, 2] rfl)
          · replace hm := ite_f c14 hm
            refine lv_iload_n hx hb dX9_dumb_43 rfl (lv_at hl 1 rfl) ?_
            refine lv_iconst (v := (1 : Int32)) hx hb dX9_dumb_44 (by decide) ?_
            refine lv_iload_n hx hb dX9_dumb_45 rfl (lv_at hl 2 rfl) ?_
            refine lv_ishl hx hb dX9_dumb_46 ?_
            refine lv_ior hx hb dX9_dumb_47 ?_
            refine lv_topi (fun x15 ex15 => ?_)
            replace hm := nm_t ex15 hm
            refine lv_istore_n (lv' := [(1, .int x15), (0, .ref a_th), (2, .int x2)]) hx hb dX9_dumb_48 rfl hl (by decide) rfl (fun ls hl => ?_)
            exact J49 x15 _ _ _ hm hP hS (lv_sub hl [1, 0, 2] rfl)
  refine lp4 1024 (0 : Int32) (0 : Int32) _ _ _ _ hm (fun x3 H locs ls hm hP hS hl => ?_) hP hS (lv_sub hl [2, 1, 0] rfl)
  refine lv_iload_n hx hb dX9_dumb_55 rfl (lv_at hl 0 rfl) ?_
  obtain rfl := Option.some.inj hm
  subst hQ
  exact W.iret hx hb hr (fun t ht hW => ⟨⟨_, (), rfl, rfl, kb_h hP ht⟩, hS.F ht⟩) hS.2.2 dX9_dumb_56
set_option maxHeartbeats 4000000 in
set_option maxRecDepth 100000 in
theorem c_X8_narrow (l : Launch) (dC : Nat → ClassId) (dI : Nat → Nat → Nat) (cI cJ cZ cQ : ClassId) (t sz : Nat) (a_p0 : Nat) (a_p1 : Nat) (n_p0 : Nat) (n_p1 : Nat) (v_p0 : (Nat → Int32)) (v_p1 : (Nat → Int32)) (p_2 : Int32) (p_3 : Int32) (p_4 : Int32) (o : Nat → Int32) (hm : m_X8_narrow p_2 p_3 p_4 n_p0 n_p1 v_p0 v_p1 = some o) : Met l yX8_narrow wsX8_narrow { frames := 3, cells := 0, slots := 0, locals := 68 } (va_Pc [.ref a_p0, .ref a_p1, .int p_2, .int p_3, .int p_4] (cP (dC, dI) (kT cI cJ cZ cQ) t sz [aI cI a_p0 n_p0 v_p0, aI cI a_p1 n_p1 v_p1])) (cQv (dC, dI) (va_A [aI cI a_p0 n_p0 v_p0, aI cI a_p1 n_p1 v_p1] sz) [aI cI a_p0 n_p0 v_p0, aI cI a_p1 n_p1 o]) 0 0 (va_A [aI cI a_p0 n_p0 v_p0, aI cI a_p1 n_p1 v_p1] sz) := by
  refine Met.ofW (cc := cX8_narrow) (maxL := 7) (ret := none) (by decide) rfl ?_
  intro p e s m args below meth c s₁ B hml hv
  obtain ⟨rfl, hsz, hP, hK, hD0, hG⟩ := hv
  have hx := B.exec
  have hb := B.bytes
  have hr := B.returns
  have hts := atoms_spec (ws := wsX8_narrow) B.pre
  have hown : s.vm.findClass RX8 = some m.cls := findClass_of_methodNamed B.named
  have hlocks := B.notSynchronized
  subst hsz
  have hD := hD0.self (sz := s.heap.size)
  generalize hAe : va_A [aI cI a_p0 n_p0 v_p0, aI cI a_p1 n_p1 v_p1] s.heap.size = A at hD hG ⊢
  have hA : ∀ q : Nat, s.heap.size ≤ q → A q := fun q h => by rw [← hAe]; exact Or.inr h
  have hS : va_S A s.heap s.heap [] := va_S.rf
  have hl := lv_entry ([.ref a_p0, .ref a_p1, .int p_2, .int p_3, .int p_4]) (n := 7) (Nat.le_of_ble_eq_true rfl)
  rw [lg_entry_eq]
  generalize (lg_sl ([.ref a_p0, .ref a_p1, .int p_2, .int p_3, .int p_4]) ++ List.replicate (7 - (lg_sl ([.ref a_p0, .ref a_p1, .int p_2, .int p_3, .int p_4])).length) Slot.unset).toArray = ls at hl ⊢
  have hl : lv_has ls 7 [(0, .ref a_p0), (1, .ref a_p1), (2, .int p_2), (3, .int p_3), (4, .int p_4)] := hl
  have ml24 := hts (.methodLink RX8 24 Lib.Math.min.name) (by decide +kernel)
  have ms24 := hts (.static Lib.Math.min.name) (by decide +kernel)
  have mi24 := hts (.initialized "java/lang/Math") (by decide +kernel)
  have mc24 := hts (.code Lib.Math.min.name Lib.Math.min.code 2 (some .int)) (by decide +kernel)
  refine kb_gen (fun Q hQ => ?_)
  unfold m_X8_narrow at hm
  refine lv_aload_n hx hb dX8_narrow_0 rfl (lv_at hl 0 rfl) ?_
  refine va_alen (v := (Int32.ofNat n_p0)) hx hb hK hP 0 0 rfl rfl rfl dX8_narrow_1 ?_
  refine lv_aload_n hx hb dX8_narrow_2 rfl (lv_at hl 1 rfl) ?_
  refine va_alen (v := (Int32.ofNat n_p1)) hx hb hK hP 1 0 rfl rfl rfl dX8_narrow_3 ?_
  refine va_mmin hx hb (by rw [hml]; exact hl.1.symm) hown ml24 ms24 mi24 mc24 (Nat.le_of_ble_eq_true rfl) (Nat.le_of_ble_eq_true rfl) (Nat.zero_le _) (Nat.zero_le _) dX8_narrow_4 ?_
  refine lv_topi (fun x1 ex1 => ?_)
  replace hm := nm_t ex1 hm
  refine lv_istore (lv' := [(5, .int x1), (0, .ref a_p0), (1, .ref a_p1), (2, .int p_2), (3, .int p_3), (4, .int p_4)]) hx hb dX8_narrow_7 hl (by decide) rfl (fun ls hl => ?_)
  refine lv_iconst (v := (0 : Int32)) hx hb dX8_narrow_9 (by decide) ?_
  refine lv_istore (lv' := [(6, .int (0 : Int32)), (5, .int x1), (0, .ref a_p0), (1, .ref a_p1), (2, .int p_2), (3, .int p_3), (4, .int p_4)]) hx hb dX8_narrow_10 hl (by decide) rfl (fun ls hl => ?_)
  have lp12 : ∀ (n12 : Nat) (x2 : Int32) (w3 : (Nat → Int32)) (k12 : (Nat → Int32) → Option (Nat → Int32)) (H : Heap) (locs : List Loc) (ls : Array Slot), L_X8_narrow_12 v_p0 p_2 p_3 p_4 n_p0 n_p1 x1 n12 x2 w3 k12 = some o → (∀ (w4 : (Nat → Int32)) (H : Heap) (locs : List Loc) (ls : Array Slot), k12 w4 = some o → va_P (dC, dI) vwCl [aI cI a_p0 n_p0 v_p0, aI cI a_p1 n_p1 w4] H → va_S A s.heap H locs → lv_has ls 7 [] → W p l e (headSpec wsX8_narrow { frames := 3, cells := 0, slots := 0, locals := 68 }).room s m [.ref a_p0, .ref a_p1, .int p_2, .int p_3, .int p_4].toArray below meth c H locs 0 0 Q (F0 m 43 ls [])) → va_P (dC, dI) vwCl [aI cI a_p0 n_p0 v_p0, aI cI a_p1 n_p1 w3] H → va_S A s.heap H locs → lv_has ls 7 [(0, .ref a_p0), (1, .ref a_p1), (2, .int p_2), (3, .int p_3), (4, .int p_4), (5, .int x1), (6, .int x2)] → W p l e (headSpec wsX8_narrow { frames := 3, cells := 0, slots := 0, locals := 68 }).room s m [.ref a_p0, .ref a_p1, .int p_2, .int p_3, .int p_4].toArray below meth c H locs 0 0 Q (F0 m 12 ls []) := by
    intro n12
    induction n12 with
    | zero =>
      intro x2 w3 k12 H locs ls hm
      cases (show (none : Option (Nat → Int32)) = some o from hm)
    | succ n12 ih12 =>
      intro x2 w3 k12 H locs ls hm hk12 hP hS hl
      rw [L_X8_narrow_12.eq_2] at hm
      refine lv_iload hx hb dX8_narrow_12 (lv_at hl 6 rfl) ?_
      refine lv_iload hx hb dX8_narrow_14 (lv_at hl 5 rfl) ?_
      refine lv_icmp_ge (tgt := 43) hx hb dX8_narrow_16 (by decide) (fun c5 => ?_) (fun c5 => ?_)
      · replace hm := ite_t c5 hm
        exact hk12 w3 _ _ _ hm hP hS (lv_sub hl [] rfl)
      · replace hm := ite_f c5 hm
        refine lv_aload_n hx hb dX8_narrow_19 rfl (lv_at hl 1 rfl) ?_
        refine lv_iload hx hb dX8_narrow_20 (lv_at hl 6 rfl) ?_
        refine lv_aload_n hx hb dX8_narrow_22 rfl (lv_at hl 0 rfl) ?_
        refine lv_iload hx hb dX8_narrow_23 (lv_at hl 6 rfl) ?_
        obtain ⟨h6, hm⟩ := gd_s hm
        refine va_iald hx hb hK hP 0 0 rfl rfl (inB_s h6) dX8_narrow_25 ?_
        refine lv_iload_n hx hb dX8_narrow_26 rfl (lv_at hl 2 rfl) ?_
        refine lv_iload_n hx hb dX8_narrow_27 rfl (lv_at hl 3 rfl) ?_
        refine lv_iload hx hb dX8_narrow_28 (lv_at hl 4 rfl) ?_
        refine lv_iload hx hb dX8_narrow_30 (lv_at hl 6 rfl) ?_
        obtain ⟨r7, ho8, hm⟩ := bd1_s hm
        refine kb_calli (Rv := r7) (va_runS (As := [.int p_2, .int p_3, .int p_4, .int x2]) (rest := [.int (v_p0 (Int32.toNatClampNeg x2)), .int x2, .ref a_p1]) ⟨hx, hb, hml, hown, hts⟩ (c_X6_casesAnswered l dC dI cI cJ cZ cQ t H.size p_2 p_3 p_4 x2 (r7) ho8) (va_cwS 4 hts gX8_narrow_X6_casesAnswered rfl rfl rfl (by decide +kernel) ⟨(Nat.le_of_ble_eq_true rfl), (Nat.le_of_ble_eq_true rfl)⟩) (kb_pre hK hG hP (kb_D hD rfl) hS hA [] rfl (by decide)) rfl rfl hl.1 rfl (lv_room (Nat.le_of_ble_eq_true rfl)) dX8_narrow_32 ⟨Nat.zero_le _, Nat.zero_le _⟩) hP (kb_D hD rfl) hS hA [] rfl [(false, 0), (false, 1)] (w2 := [aI cI a_p0 n_p0 v_p0, aI cI a_p1 n_p1 w3]) rfl (by decide) (fun H locs hP hS => ?_)
        refine lv_iand hx hb dX8_narrow_35 ?_
        obtain ⟨h9, hm⟩ := gd_s hm
        refine va_iast hx hb hK hP (kb_D hD rfl) hS 1 0 rfl rfl (inB_s h9) dX8_narrow_36 (fun H locs hP _ hS => ?_)
        have hP : va_P (dC, dI) vwCl [aI cI a_p0 n_p0 v_p0, aI cI a_p1 n_p1 (upd w3 (Int32.toNatClampNeg x2) ((v_p0 (Int32.toNatClampNeg x2)) &&& r7))] H := hP
        obtain ⟨x10, ex10⟩ : ∃ y : Int32, y = x2 + (1 : Int32) := ⟨_, rfl⟩
        replace hm := nm_t ex10 hm
        refine lv_iinc (v := x10) (lv' := [(6, .int x10), (0, .ref a_p0), (1, .ref a_p1), (2, .int p_2), (3, .int p_3), (4, .int p_4), (5, .int x1)]) hx hb dX8_narrow_37 hl (k := 6) rfl (by rw [ex10]; rfl) (by decide) rfl (fun ls hl => ?_)
        refine lv_goto (tgt := 12) hx hb dX8_narrow_40 (by decide) ?_
        exact ih12 x10 (upd w3 (Int32.toNatClampNeg x2) ((v_p0 (Int32.toNatClampNeg x2)) &&& r7)) k12 _ _ _ hm hk12 hP hS (lv_sub hl [1, 2, 3, 4, 5, 6, 0] rfl)
  refine lp12 1024 (0 : Int32) v_p1 _ _ _ _ hm (fun w4 H locs ls hm hP hS hl => ?_) hP hS (lv_sub hl [2, 3, 4, 5, 6, 1, 0] rfl)
  obtain rfl := Option.some.inj hm
  subst hQ
  exact W.vret hx hb hr (fun t ht hW => ⟨⟨(), rfl, trivial, kb_h hP ht⟩, hS.F ht⟩) hS.2.2 dX8_narrow_43
set_option maxHeartbeats 4000000 in
set_option maxRecDepth 100000 in
theorem c_X2_kindsLeft (l : Launch) (dC : Nat → ClassId) (dI : Nat → Nat → Nat) (cI cJ cZ cQ : ClassId) (t sz : Nat) (a_p0 : Nat) (n_p0 : Nat) (v_p0 : (Nat → Int32)) (p_1 : Int32) (o : Int32) (hm : m_X2_kindsLeft p_1 n_p0 v_p0 = some o) : Met l yX2_kindsLeft wsX2_kindsLeft { frames := 2, cells := 0, slots := 0, locals := 41 } (va_Pc [.ref a_p0, .int p_1] (cP (dC, dI) (kT cI cJ cZ cQ) t sz [aI cI a_p0 n_p0 v_p0])) (cQi (dC, dI) (va_A [aI cI a_p0 n_p0 v_p0] sz) o [aI cI a_p0 n_p0 v_p0]) 0 0 (va_A [aI cI a_p0 n_p0 v_p0] sz) := by
  refine Met.ofW (cc := cX2_kindsLeft) (maxL := 3) (ret := (some .int)) (by decide) rfl ?_
  intro p e s m args below meth c s₁ B hml hv
  obtain ⟨rfl, hsz, hP, hK, hD0, hG⟩ := hv
  have hx := B.exec
  have hb := B.bytes
  have hr := B.returns
  have hts := atoms_spec (ws := wsX2_kindsLeft) B.pre
  have hown : s.vm.findClass RX2 = some m.cls := findClass_of_methodNamed B.named
  have hlocks := B.notSynchronized
  subst hsz
  have hD := hD0.self (sz := s.heap.size)
  generalize hAe : va_A [aI cI a_p0 n_p0 v_p0] s.heap.size = A at hD hG ⊢
  have hA : ∀ q : Nat, s.heap.size ≤ q → A q := fun q h => by rw [← hAe]; exact Or.inr h
  have hS : va_S A s.heap s.heap [] := va_S.rf
  have hl := lv_entry ([.ref a_p0, .int p_1]) (n := 3) (Nat.le_of_ble_eq_true rfl)
  rw [lg_entry_eq]
  generalize (lg_sl ([.ref a_p0, .int p_1]) ++ List.replicate (3 - (lg_sl ([.ref a_p0, .int p_1])).length) Slot.unset).toArray = ls at hl ⊢
  have hl : lv_has ls 3 [(0, .ref a_p0), (1, .int p_1)] := hl
  have nl78 := (hG.2.1 (RX2, 78, yX9_isSoInNone) (by decide +kernel) : va_Nw (.methodLinkNest RX2 78 yX9_isSoInNone "TrueOnceWeek") s)
  have ni78 := hts (.initialized RX9) (by decide +kernel)
  have ns78 := hts (.static yX9_isSoInNone) (by decide +kernel)
  have nl82 := (hG.2.1 (RX2, 82, yX9_isSoInAll) (by decide +kernel) : va_Nw (.methodLinkNest RX2 82 yX9_isSoInAll "TrueOnceWeek") s)
  have ni82 := hts (.initialized RX9) (by decide +kernel)
  have ns82 := hts (.static yX9_isSoInAll) (by decide +kernel)
  refine kb_gen (fun Q hQ => ?_)
  unfold m_X2_kindsLeft at hm
  refine lv_iload_n hx hb dX2_kindsLeft_0 rfl (lv_at hl 1 rfl) ?_
  refine lv_iconst (v := (5 : Int32)) hx hb dX2_kindsLeft_1 (by decide) ?_
  refine lv_icmp_ne (tgt := 13) hx hb dX2_kindsLeft_2 (by decide) (fun c1 => ?_) (fun c1 => ?_)
  · replace hm := ite_f c1 hm
    refine lv_aload_n hx hb dX2_kindsLeft_13 rfl (lv_at hl 0 rfl) ?_
    obtain ⟨r2, ho3, hm⟩ := bd1_s hm
    refine kb_calli (Rv := r2) (va_runS (As := [.ref a_p0]) (rest := []) ⟨hx, hb, hml, hown, hts⟩ (c_X8_casesOfAnyDay l dC dI cI cJ cZ cQ t s.heap.size a_p0 n_p0 v_p0 (r2) ho3) (va_cwS 1 hts gX2_kindsLeft_X8_casesOfAnyDay rfl rfl rfl (by decide +kernel) ⟨(Nat.le_of_ble_eq_true rfl), (Nat.le_of_ble_eq_true rfl)⟩) (kb_pre hK hG hP (kb_D hD rfl) hS hA [0] rfl (by decide)) rfl rfl hl.1 rfl (lv_room (Nat.le_of_ble_eq_true rfl)) dX2_kindsLeft_14 ⟨Nat.zero_le _, Nat.zero_le _⟩) hP (kb_D hD rfl) hS hA [0] rfl [(true, 0)] (w2 := [aI cI a_p0 n_p0 v_p0]) rfl (by decide) (fun H locs hP hS => ?_)
    refine lv_istore_n (lv' := [(2, .int r2), (0, .ref a_p0), (1, .int p_1)]) hx hb dX2_kindsLeft_17 rfl hl (by decide) rfl (fun ls hl => ?_)
    refine lv_iload_n hx hb dX2_kindsLeft_18 rfl (lv_at hl 0 rfl) ?_
    refine lv_iload_n hx hb dX2_kindsLeft_19 rfl (lv_at hl 2 rfl) ?_
    obtain ⟨r4, ho5, hm⟩ := bd1_s hm
    refine kb_calli (Rv := r4) (va_runSN (As := [.int r2, .int p_1]) (rest := []) ⟨hx, hb, hml, hown, hts⟩ (c_X9_isSoInNone l dC dI cI cJ cZ cQ t H.size r2 p_1 (r4) ho5) ⟨va_cnB (ret := (some .boolean)) (maxL := 2) 2 hts gX2_kindsLeft_X9_isSoInNone_n78 rfl rfl rfl nl78 ni78 (by decide +kernel) ⟨(Nat.le_of_ble_eq_true rfl), (Nat.le_of_ble_eq_true rfl)⟩, ns78, trivial⟩ (kb_pre hK hG hP (kb_D hD rfl) hS hA [] rfl (by decide)) rfl rfl hl.1 rfl (lv_room (Nat.le_of_ble_eq_true rfl)) dX2_kindsLeft_20 ⟨Nat.zero_le _, Nat.zero_le _⟩) hP (kb_D hD rfl) hS hA [] rfl [(false, 0)] (w2 := [aI cI a_p0 n_p0 v_p0]) rfl (by decide) (fun H locs hP hS => ?_)
    obtain ⟨k31, ek31, hm⟩ := nm_s hm
    have J31 : ∀ (x6 : Int32) (H : Heap) (locs : List Loc) (ls : Array Slot), k31 x6 = some o → va_P (dC, dI) vwCl [aI cI a_p0 n_p0 v_p0] H → va_S A s.heap H locs → lv_has ls 3 [(1, .int p_1), (2, .int r2)] → W p l e (headSpec wsX2_kindsLeft { frames := 2, cells := 0, slots := 0, locals := 41 }).room s m [.ref a_p0, .int p_1].toArray below meth c H locs 0 0 Q (F0 m 31 ls [.int x6]) := by
      intro x6 H locs ls hm hP hS hl
      rw [ek31] at hm
      refine lv_iload_n hx hb dX2_kindsLeft_31 rfl (lv_at hl 1 rfl) ?_
      refine lv_iload_n hx hb dX2_kindsLeft_32 rfl (lv_at hl 0 rfl) ?_
      obtain ⟨r7, ho8, hm⟩ := bd1_s hm
      refine kb_calli (Rv := r7) (va_runSN (As := [.int r2, .int p_1]) (rest := [.int x6]) ⟨hx, hb, hml, hown, hts⟩ (c_X9_isSoInAll l dC dI cI cJ cZ cQ t H.size r2 p_1 (r7) ho8) ⟨va_cnB (ret := (some .boolean)) (maxL := 2) 2 hts gX2_kindsLeft_X9_isSoInAll_n82 rfl rfl rfl nl82 ni82 (by decide +kernel) ⟨(Nat.le_of_ble_eq_true rfl), (Nat.le_of_ble_eq_true rfl)⟩, ns82, trivial⟩ (kb_pre hK hG hP (kb_D hD rfl) hS hA [] rfl (by decide)) rfl rfl hl.1 rfl (lv_room (Nat.le_of_ble_eq_true rfl)) dX2_kindsLeft_33 ⟨Nat.zero_le _, Nat.zero_le _⟩) hP (kb_D hD rfl) hS hA [] rfl [(false, 0)] (w2 := [aI cI a_p0 n_p0 v_p0]) rfl (by decide) (fun H locs hP hS => ?_)
      obtain ⟨k44, ek44, hm⟩ := nm_s hm
      have J44 : ∀ (x9 : Int32) (H : Heap) (locs : List Loc) (ls : Array Slot), k44 x9 = some o → va_P (dC, dI) vwCl [aI cI a_p0 n_p0 v_p0] H → va_S A s.heap H locs → lv_has ls 3 [] → W p l e (headSpec wsX2_kindsLeft { frames := 2, cells := 0, slots := 0, locals := 41 }).room s m [.ref a_p0, .int p_1].toArray below meth c H locs 0 0 Q (F0 m 44 ls [.int x9, .int x6]) := by
        intro x9 H locs ls hm hP hS hl
        rw [ek44] at hm
        refine lv_iadd hx hb dX2_kindsLeft_44 ?_
        obtain rfl := Option.some.inj hm
        subst hQ
        exact W.iret hx hb hr (fun t ht hW => ⟨⟨_, (), rfl, rfl, kb_h hP ht⟩, hS.F ht⟩) hS.2.2 dX2_kindsLeft_45
      refine lv_if_eq (tgt := 43) hx hb dX2_kindsLeft_36 (by decide) (fun c10 => ?_) (fun c10 => ?_)
      · replace hm := ite_t c10 hm
        refine lv_iconst (v := (1 : Int32)) hx hb dX2_kindsLeft_43 (by decide) ?_
        exact J44 (1 : Int32) _ _ _ hm hP hS (lv_sub hl [] rfl)
      · replace hm := ite_f c10 hm
        refine lv_iconst (v := (0 : Int32)) hx hb dX2_kindsLeft_39 (by decide) ?_
        refine lv_goto (tgt := 44) hx hb dX2_kindsLeft_40 (by decide) ?_
        exact J44 (0 : Int32) _ _ _ hm hP hS (lv_sub hl [] rfl)
    refine lv_if_eq (tgt := 30) hx hb dX2_kindsLeft_23 (by decide) (fun c11 => ?_) (fun c11 => ?_)
    · replace hm := ite_t c11 hm
      refine lv_iconst (v := (1 : Int32)) hx hb dX2_kindsLeft_30 (by decide) ?_
      exact J31 (1 : Int32) _ _ _ hm hP hS (lv_sub hl [2, 0] rfl)
    · replace hm := ite_f c11 hm
      refine lv_iconst (v := (0 : Int32)) hx hb dX2_kindsLeft_26 (by decide) ?_
      refine lv_goto (tgt := 31) hx hb dX2_kindsLeft_27 (by decide) ?_
      exact J31 (0 : Int32) _ _ _ hm hP hS (lv_sub hl [2, 0] rfl)
  · replace hm := ite_t c1 hm
    refine lv_aload_n hx hb dX2_kindsLeft_5 rfl (lv_at hl 0 rfl) ?_
    obtain ⟨r12, ho13, hm⟩ := bd1_s hm
    refine kb_calli (Rv := r12) (va_runS (As := [.ref a_p0]) (rest := []) ⟨hx, hb, hml, hown, hts⟩ (c_X8_trueDays l dC dI cI cJ cZ cQ t s.heap.size a_p0 n_p0 v_p0 (r12) ho13) (va_cwS 1 hts gX2_kindsLeft_X8_trueDays rfl rfl rfl (by decide +kernel) ⟨(Nat.le_of_ble_eq_true rfl), (Nat.le_of_ble_eq_true rfl)⟩) (kb_pre hK hG hP (kb_D hD rfl) hS hA [0] rfl (by decide)) rfl rfl hl.1 rfl (lv_room (Nat.le_of_ble_eq_true rfl)) dX2_kindsLeft_6 ⟨Nat.zero_le _, Nat.zero_le _⟩) hP (kb_D hD rfl) hS hA [0] rfl [(true, 0)] (w2 := [aI cI a_p0 n_p0 v_p0]) rfl (by decide) (fun H locs hP hS => ?_)
    obtain ⟨r14, ho15, hm⟩ := bd1_s hm
    refine kb_calli (Rv := r14) (va_runS (As := [.int r12]) (rest := []) ⟨hx, hb, hml, hown, hts⟩ (c_J6_bitCount_0f7a4 l dC dI cI cJ cZ cQ t H.size r12 (r14) ho15) (va_cwS 1 hts gX2_kindsLeft_J6_bitCount_0f7a4 rfl rfl rfl (by decide +kernel) ⟨(Nat.le_of_ble_eq_true rfl), (Nat.le_of_ble_eq_true rfl)⟩) (kb_pre hK hG hP (kb_D hD rfl) hS hA [] rfl (by decide)) rfl rfl hl.1 rfl (lv_room (Nat.le_of_ble_eq_true rfl)) dX2_kindsLeft_9 ⟨Nat.zero_le _, Nat.zero_le _⟩) hP (kb_D hD rfl) hS hA [] rfl [(false, 0)] (w2 := [aI cI a_p0 n_p0 v_p0]) rfl (by decide) (fun H locs hP hS => ?_)
    obtain rfl := Option.some.inj hm
    subst hQ
    exact W.iret hx hb hr (fun t ht hW => ⟨⟨_, (), rfl, rfl, kb_h hP ht⟩, hS.F ht⟩) hS.2.2 dX2_kindsLeft_12
set_option maxHeartbeats 4000000 in
set_option maxRecDepth 100000 in
theorem c_X2_tellsBehind_k3 (l : Launch) (dC : Nat → ClassId) (dI : Nat → Nat → Nat) (cI cJ cZ cQ : ClassId) (t sz : Nat) (a_th : Nat) (a_p1 : Nat) (q_left : Value) (q_row : Value) (p_2 : Int32) (p_4 : Int32) (p_5 : Int32) (p_6 : Int32) (o : Int32) (hm : m_X2_tellsBehind_k3 p_2 p_4 p_5 p_6 = some o) : Met l yX2_tellsBehind wsX2_tellsBehind { frames := 0, cells := 0, slots := 0, locals := 0 } (va_Pc [.ref a_th, .ref a_p1, .int p_2, .int (3 : Int32), .int p_4, .int p_5, .int p_6] (cP (dC, dI) (kT cI cJ cZ cQ) t sz [oX2 a_th q_left q_row])) (cQi (dC, dI) (va_A [oX2 a_th q_left q_row] sz) o [oX2 a_th q_left q_row]) 0 0 (va_A [oX2 a_th q_left q_row] sz) := by
  refine Met.ofW (cc := cX2_tellsBehind) (maxL := 8) (ret := (some .boolean)) (by decide) rfl ?_
  intro p e s m args below meth c s₁ B hml hv
  obtain ⟨rfl, hsz, hP, hK, hD0, hG⟩ := hv
  have hx := B.exec
  have hb := B.bytes
  have hr := B.returns
  have hts := atoms_spec (ws := wsX2_tellsBehind) B.pre
  have hown : s.vm.findClass RX2 = some m.cls := findClass_of_methodNamed B.named
  have hlocks := B.notSynchronized
  subst hsz
  have hD := hD0.self (sz := s.heap.size)
  generalize hAe : va_A [oX2 a_th q_left q_row] s.heap.size = A at hD hG ⊢
  have hA : ∀ q : Nat, s.heap.size ≤ q → A q := fun q h => by rw [← hAe]; exact Or.inr h
  have hS : va_S A s.heap s.heap [] := va_S.rf
  have hl := lv_entry ([.ref a_th, .ref a_p1, .int p_2, .int (3 : Int32), .int p_4, .int p_5, .int p_6]) (n := 8) (Nat.le_of_ble_eq_true rfl)
  rw [lg_entry_eq]
  generalize (lg_sl ([.ref a_th, .ref a_p1, .int p_2, .int (3 : Int32), .int p_4, .int p_5, .int p_6]) ++ List.replicate (8 - (lg_sl ([.ref a_th, .ref a_p1, .int p_2, .int (3 : Int32), .int p_4, .int p_5, .int p_6])).length) Slot.unset).toArray = ls at hl ⊢
  have hl : lv_has ls 8 [(0, .ref a_th), (1, .ref a_p1), (2, .int p_2), (3, .int (3 : Int32)), (4, .int p_4), (5, .int p_5), (6, .int p_6)] := hl
  have iX2 : ∀ w ∈ wsX20, w ∈ wsX2_tellsBehind := fun _ h => List.mem_cons_of_mem _ (List.mem_append_left _ (List.mem_append_right _ h))
  have iX1 : ∀ w ∈ wsX10, w ∈ wsX2_tellsBehind := fun _ h => List.mem_cons_of_mem _ (List.mem_append_right _ h)
  refine kb_gen (fun Q hQ => ?_)
  unfold m_X2_tellsBehind_k3 at hm
  refine lv_iload_n hx hb dX2_tellsBehind_0 rfl (lv_at hl 3 rfl) ?_
  refine lv_if_lt (tgt := 9) hx hb dX2_tellsBehind_1 (by decide) (fun c1 => ?_) (fun c1 => ?_)
  · exact absurd c1 (by decide)
  refine lv_iload_n hx hb dX2_tellsBehind_4 rfl (lv_at hl 3 rfl) ?_
  refine lv_iconst (v := (3 : Int32)) hx hb dX2_tellsBehind_5 (by decide) ?_
  refine lv_icmp_lt (tgt := 11) hx hb dX2_tellsBehind_6 (by decide) (fun c2 => ?_) (fun c2 => ?_)
  · exact absurd c2 (by decide)
  refine lv_iconst (v := (0 : Int32)) hx hb dX2_tellsBehind_9 (by decide) ?_
  obtain rfl := Option.some.inj hm
  subst hQ
  exact W.zret hx hb hr rfl (fun t ht hW => ⟨⟨_, (), rfl, rfl, kb_h hP ht⟩, hS.F ht⟩) hS.2.2 dX2_tellsBehind_10
set_option maxHeartbeats 4000000 in
set_option maxRecDepth 100000 in
theorem c_X2_leastThatTells_k3 (l : Launch) (dC : Nat → ClassId) (dI : Nat → Nat → Nat) (cI cJ cZ cQ : ClassId) (t sz : Nat) (a_th : Nat) (a_p1 : Nat) (q_left : Value) (q_row : Value) (v_p1_facts : Int32) (v_p1_so : Int32) (v_p1_common : Int32) (v_p1_cases : Int32) (v_p1_firstTrueDay : Int32) (p_3 : Int32) (p_4 : Int32) (p_5 : Int32) (o : Int32) (hm : m_X2_leastThatTells_k3 p_3 p_4 p_5 v_p1_facts = some o) : Met l yX2_leastThatTells wsX2_leastThatTells { frames := 2, cells := 0, slots := 0, locals := 43 } (va_Pc [.ref a_th, .ref a_p1, .int (3 : Int32), .int p_3, .int p_4, .int p_5] (cP (dC, dI) (kT cI cJ cZ cQ) t sz [oX2 a_th q_left q_row, oX1 a_p1 (.int v_p1_facts) (.int v_p1_so) (.int v_p1_common) (.int v_p1_cases) (.int v_p1_firstTrueDay)])) (cQi (dC, dI) (va_A [oX2 a_th q_left q_row, oX1 a_p1 (.int v_p1_facts) (.int v_p1_so) (.int v_p1_common) (.int v_p1_cases) (.int v_p1_firstTrueDay)] sz) o [oX2 a_th q_left q_row, oX1 a_p1 (.int v_p1_facts) (.int v_p1_so) (.int v_p1_common) (.int v_p1_cases) (.int v_p1_firstTrueDay)]) 0 0 (va_A [oX2 a_th q_left q_row, oX1 a_p1 (.int v_p1_facts) (.int v_p1_so) (.int v_p1_common) (.int v_p1_cases) (.int v_p1_firstTrueDay)] sz) := by
  refine Met.ofW (cc := cX2_leastThatTells) (maxL := 7) (ret := (some .int)) (by decide) rfl ?_
  intro p e s m args below meth c s₁ B hml hv
  obtain ⟨rfl, hsz, hP, hK, hD0, hG⟩ := hv
  have hx := B.exec
  have hb := B.bytes
  have hr := B.returns
  have hts := atoms_spec (ws := wsX2_leastThatTells) B.pre
  have hown : s.vm.findClass RX2 = some m.cls := findClass_of_methodNamed B.named
  have hlocks := B.notSynchronized
  subst hsz
  have hD := hD0.self (sz := s.heap.size)
  generalize hAe : va_A [oX2 a_th q_left q_row, oX1 a_p1 (.int v_p1_facts) (.int v_p1_so) (.int v_p1_common) (.int v_p1_cases) (.int v_p1_firstTrueDay)] s.heap.size = A at hD hG ⊢
  have hA : ∀ q : Nat, s.heap.size ≤ q → A q := fun q h => by rw [← hAe]; exact Or.inr h
  have hS : va_S A s.heap s.heap [] := va_S.rf
  have hl := lv_entry ([.ref a_th, .ref a_p1, .int (3 : Int32), .int p_3, .int p_4, .int p_5]) (n := 7) (Nat.le_of_ble_eq_true rfl)
  rw [lg_entry_eq]
  generalize (lg_sl ([.ref a_th, .ref a_p1, .int (3 : Int32), .int p_3, .int p_4, .int p_5]) ++ List.replicate (7 - (lg_sl ([.ref a_th, .ref a_p1, .int (3 : Int32), .int p_3, .int p_4, .int p_5])).length) Slot.unset).toArray = ls at hl ⊢
  have hl : lv_has ls 7 [(0, .ref a_th), (1, .ref a_p1), (2, .int (3 : Int32)), (3, .int p_3), (4, .int p_4), (5, .int p_5)] := hl
  have iX2 : ∀ w ∈ wsX20, w ∈ wsX2_leastThatTells := fun _ h => List.mem_cons_of_mem _ (List.mem_append_left _ (List.mem_append_right _ h))
  have iX1 : ∀ w ∈ wsX10, w ∈ wsX2_leastThatTells := fun _ h => List.mem_cons_of_mem _ (List.mem_append_right _ h)
  refine kb_gen (fun Q hQ => ?_)
  unfold m_X2_leastThatTells_k3 at hm
  refine lv_iconst (v := (0 : Int32)) hx hb dX2_leastThatTells_0 (by decide) ?_
  refine lv_istore (lv' := [(6, .int (0 : Int32)), (0, .ref a_th), (1, .ref a_p1), (2, .int (3 : Int32)), (3, .int p_3), (4, .int p_4), (5, .int p_5)]) hx hb dX2_leastThatTells_1 hl (by decide) rfl (fun ls hl => ?_)
  have lp3 : ∀ (n3 : Nat) (x1 : Int32) (k3 : Option (Int32)) (H : Heap) (locs : List Loc) (ls : Array Slot), L_X2_leastThatTells_k3_3 v_p1_facts p_3 p_4 p_5 n3 x1 k3 = some o → (∀ (H : Heap) (locs : List Loc) (ls : Array Slot), k3 = some o → va_P (dC, dI) vwCl [oX2 a_th q_left q_row, oX1 a_p1 (.int v_p1_facts) (.int v_p1_so) (.int v_p1_common) (.int v_p1_cases) (.int v_p1_firstTrueDay)] H → va_S A s.heap H locs → lv_has ls 7 [] → W p l e (headSpec wsX2_leastThatTells { frames := 2, cells := 0, slots := 0, locals := 43 }).room s m [.ref a_th, .ref a_p1, .int (3 : Int32), .int p_3, .int p_4, .int p_5].toArray below meth c H locs 0 0 Q (F0 m 44 ls [])) → va_P (dC, dI) vwCl [oX2 a_th q_left q_row, oX1 a_p1 (.int v_p1_facts) (.int v_p1_so) (.int v_p1_common) (.int v_p1_cases) (.int v_p1_firstTrueDay)] H → va_S A s.heap H locs → lv_has ls 7 [(0, .ref a_th), (1, .ref a_p1), (2, .int (3 : Int32)), (3, .int p_3), (4, .int p_4), (5, .int p_5), (6, .int x1)] → W p l e (headSpec wsX2_leastThatTells { frames := 2, cells := 0, slots := 0, locals := 43 }).room s m [.ref a_th, .ref a_p1, .int (3 : Int32), .int p_3, .int p_4, .int p_5].toArray below meth c H locs 0 0 Q (F0 m 3 ls []) := by
    intro n3
    induction n3 with
    | zero =>
      intro x1 k3 H locs ls hm
      cases (show (none : Option (Int32)) = some o from hm)
    | succ n3 ih3 =>
      intro x1 k3 H locs ls hm hk3 hP hS hl
      rw [L_X2_leastThatTells_k3_3.eq_2] at hm
      refine lv_iload hx hb dX2_leastThatTells_3 (lv_at hl 6 rfl) ?_
      refine lv_bipush (v := (19 : Int32)) hx hb dX2_leastThatTells_5 (by decide) ?_
      refine lv_icmp_ge (tgt := 44) hx hb dX2_leastThatTells_7 (by decide) (fun c2 => ?_) (fun c2 => ?_)
      · replace hm := ite_t c2 hm
        exact hk3  _ _ _ hm hP hS (lv_sub hl [] rfl)
      · replace hm := ite_f c2 hm
        refine lv_aload_n hx hb dX2_leastThatTells_10 rfl (lv_at hl 1 rfl) ?_
        refine lv_iload hx hb dX2_leastThatTells_11 (lv_at hl 6 rfl) ?_
        obtain ⟨r3, ho4, hm⟩ := bd1_s hm
        refine kb_calli (Rv := r3) (va_runV (As := [.int x1]) (rest := []) ⟨hx, hb, hml, hown, hts⟩ (c_X1_hasSimple l dC dI cI cJ cZ cQ t H.size a_p1 v_p1_facts v_p1_so v_p1_common v_p1_cases v_p1_firstTrueDay x1 (r3) ho4) (cwV 1 hts gX2_leastThatTells_X1_hasSimple rfl rfl rfl (by decide +kernel) ⟨(Nat.le_of_ble_eq_true rfl), (Nat.le_of_ble_eq_true rfl)⟩) ⟨(kb_pre hK hG hP (kb_D hD rfl) hS hA [1] rfl (by decide)).1, (va_recv hK hP (ci := 1) (q0 := 1) rfl rfl), (kb_pre hK hG hP (kb_D hD rfl) hS hA [1] rfl (by decide)).2⟩ rfl rfl hl.1 rfl (lv_room (Nat.le_of_ble_eq_true rfl)) dX2_leastThatTells_13 ⟨Nat.zero_le _, Nat.zero_le _⟩) hP (kb_D hD rfl) hS hA [1] rfl [(false, 0), (true, 0)] (w2 := [oX2 a_th q_left q_row, oX1 a_p1 (.int v_p1_facts) (.int v_p1_so) (.int v_p1_common) (.int v_p1_cases) (.int v_p1_firstTrueDay)]) rfl (by decide) (fun H locs hP hS => ?_)
        obtain ⟨k38, ek38, hm⟩ := nm_s hm
        have J38 : ∀ (H : Heap) (locs : List Loc) (ls : Array Slot), k38 = some o → va_P (dC, dI) vwCl [oX2 a_th q_left q_row, oX1 a_p1 (.int v_p1_facts) (.int v_p1_so) (.int v_p1_common) (.int v_p1_cases) (.int v_p1_firstTrueDay)] H → va_S A s.heap H locs → lv_has ls 7 [(0, .ref a_th), (1, .ref a_p1), (2, .int (3 : Int32)), (3, .int p_3), (4, .int p_4), (5, .int p_5), (6, .int x1)] → W p l e (headSpec wsX2_leastThatTells { frames := 2, cells := 0, slots := 0, locals := 43 }).room s m [.ref a_th, .ref a_p1, .int (3 : Int32), .int p_3, .int p_4, .int p_5].toArray below meth c H locs 0 0 Q (F0 m 38 ls []) := by
          intro  H locs ls hm hP hS hl
          rw [ek38] at hm
          obtain ⟨x5, ex5⟩ : ∃ y : Int32, y = x1 + (1 : Int32) := ⟨_, rfl⟩
          replace hm := nm_t ex5 hm
          refine lv_iinc (v := x5) (lv' := [(6, .int x5), (0, .ref a_th), (1, .ref a_p1), (2, .int (3 : Int32)), (3, .int p_3), (4, .int p_4), (5, .int p_5)]) hx hb dX2_leastThatTells_38 hl (k := 6) rfl (by rw [ex5]; rfl) (by decide) rfl (fun ls hl => ?_)
          refine lv_goto (tgt := 3) hx hb dX2_leastThatTells_41 (by decide) ?_
          exact ih3 x5 k3 _ _ _ hm hk3 hP hS (lv_sub hl [1, 2, 3, 4, 5, 6, 0] rfl)
        refine lv_if_eq (tgt := 38) hx hb dX2_leastThatTells_16 (by decide) (fun c6 => ?_) (fun c6 => ?_)
        · replace hm := ite_t c6 hm
          exact J38  _ _ _ hm hP hS (lv_sub hl [0, 1, 2, 3, 4, 5, 6] rfl)
        · replace hm := ite_f c6 hm
          refine lv_aload_n hx hb dX2_leastThatTells_19 rfl (lv_at hl 0 rfl) ?_
          refine lv_aload_n hx hb dX2_leastThatTells_20 rfl (lv_at hl 1 rfl) ?_
          refine lv_iload hx hb dX2_leastThatTells_21 (lv_at hl 6 rfl) ?_
          refine lv_iload_n hx hb dX2_leastThatTells_23 rfl (lv_at hl 2 rfl) ?_
          refine lv_iload_n hx hb dX2_leastThatTells_24 rfl (lv_at hl 3 rfl) ?_
          refine lv_iload hx hb dX2_leastThatTells_25 (lv_at hl 4 rfl) ?_
          refine lv_iload hx hb dX2_leastThatTells_27 (lv_at hl 5 rfl) ?_
          obtain ⟨r7, ho8, hm⟩ := bd1_s hm
          refine kb_calli (Rv := r7) (va_runV (As := [.ref a_p1, .int x1, .int (3 : Int32), .int p_3, .int p_4, .int p_5]) (rest := []) ⟨hx, hb, hml, hown, hts⟩ (c_X2_tellsBehind_k3 l dC dI cI cJ cZ cQ t H.size a_th a_p1 q_left q_row x1 p_3 p_4 p_5 (r7) ho8) (cwV 6 hts gX2_leastThatTells_X2_tellsBehind rfl rfl rfl (by decide +kernel) ⟨(Nat.le_of_ble_eq_true rfl), (Nat.le_of_ble_eq_true rfl)⟩) ⟨(kb_pre hK hG hP (kb_D hD rfl) hS hA [0] rfl (by decide)).1, (va_recv hK hP (ci := 2) (q0 := 0) rfl rfl), (kb_pre hK hG hP (kb_D hD rfl) hS hA [0] rfl (by decide)).2⟩ rfl rfl hl.1 rfl (lv_room (Nat.le_of_ble_eq_true rfl)) dX2_leastThatTells_29 ⟨Nat.zero_le _, Nat.zero_le _⟩) hP (kb_D hD rfl) hS hA [0] rfl [(true, 0), (false, 1)] (w2 := [oX2 a_th q_left q_row, oX1 a_p1 (.int v_p1_facts) (.int v_p1_so) (.int v_p1_common) (.int v_p1_cases) (.int v_p1_firstTrueDay)]) rfl (by decide) (fun H locs hP hS => ?_)
          refine lv_if_eq (tgt := 38) hx hb dX2_leastThatTells_32 (by decide) (fun c9 => ?_) (fun c9 => ?_)
          · replace hm := ite_t c9 hm
            exact J38  _ _ _ hm hP hS (lv_sub hl [0, 1, 2, 3, 4, 5, 6] rfl)
          · replace hm := ite_f c9 hm
            refine lv_iload hx hb dX2_leastThatTells_35 (lv_at hl 6 rfl) ?_
            obtain rfl := Option.some.inj hm
            subst hQ
            exact W.iret hx hb hr (fun t ht hW => ⟨⟨_, (), rfl, rfl, kb_h hP ht⟩, hS.F ht⟩) hS.2.2 dX2_leastThatTells_37
  refine lp3 1024 (0 : Int32) _ _ _ _ hm (fun  H locs ls hm hP hS hl => ?_) hP hS (lv_sub hl [1, 2, 3, 4, 5, 6, 0] rfl)
  refine lv_bipush (v := (-9 : Int32)) hx hb dX2_leastThatTells_44 (by decide) ?_
  obtain rfl := Option.some.inj hm
  subst hQ
  exact W.iret hx hb hr (fun t ht hW => ⟨⟨_, (), rfl, rfl, kb_h hP ht⟩, hS.F ht⟩) hS.2.2 dX2_leastThatTells_46
set_option maxHeartbeats 4000000 in
set_option maxRecDepth 100000 in
theorem c_X2_isToldIn_k3 (l : Launch) (dC : Nat → ClassId) (dI : Nat → Nat → Nat) (cI cJ cZ cQ : ClassId) (t sz : Nat) (a_th : Nat) (a_left : Nat) (a_left_r3 : Nat) (a_p1 : Nat) (a_left_r0 : Nat) (a_left_r1 : Nat) (a_left_r2 : Nat) (q_row : Value) (v_left_r3 : (Nat → Int32)) (v_p1_facts : Int32) (v_p1_so : Int32) (v_p1_common : Int32) (v_p1_cases : Int32) (v_p1_firstTrueDay : Int32) (p_3 : Int32) (p_4 : Int32) (p_5 : Int32) (o : Int32) (hm : m_X2_isToldIn_k3 p_3 p_4 p_5 v_left_r3 v_p1_facts = some o) : Met l yX2_isToldIn wsX2_isToldIn { frames := 3, cells := 0, slots := 0, locals := 69 } (va_Pc [.ref a_th, .ref a_p1, .int (3 : Int32), .int p_3, .int p_4, .int p_5] (cP (dC, dI) (kT cI cJ cZ cQ) t sz [oX2 a_th (.ref a_left) q_row, aQ cQ a_left 4 (q4 a_left_r0 a_left_r1 a_left_r2 a_left_r3), aI cI a_left_r3 7 v_left_r3, oX1 a_p1 (.int v_p1_facts) (.int v_p1_so) (.int v_p1_common) (.int v_p1_cases) (.int v_p1_firstTrueDay)])) (cQi (dC, dI) (va_A [oX2 a_th (.ref a_left) q_row, aQ cQ a_left 4 (q4 a_left_r0 a_left_r1 a_left_r2 a_left_r3), aI cI a_left_r3 7 v_left_r3, oX1 a_p1 (.int v_p1_facts) (.int v_p1_so) (.int v_p1_common) (.int v_p1_cases) (.int v_p1_firstTrueDay)] sz) o [oX2 a_th (.ref a_left) q_row, aQ cQ a_left 4 (q4 a_left_r0 a_left_r1 a_left_r2 a_left_r3), aI cI a_left_r3 7 v_left_r3, oX1 a_p1 (.int v_p1_facts) (.int v_p1_so) (.int v_p1_common) (.int v_p1_cases) (.int v_p1_firstTrueDay)]) 0 0 (va_A [oX2 a_th (.ref a_left) q_row, aQ cQ a_left 4 (q4 a_left_r0 a_left_r1 a_left_r2 a_left_r3), aI cI a_left_r3 7 v_left_r3, oX1 a_p1 (.int v_p1_facts) (.int v_p1_so) (.int v_p1_common) (.int v_p1_cases) (.int v_p1_firstTrueDay)] sz) := by
  refine Met.ofW (cc := cX2_isToldIn) (maxL := 7) (ret := (some .boolean)) (by decide) rfl ?_
  intro p e s m args below meth c s₁ B hml hv
  obtain ⟨rfl, hsz, hP, hK, hD0, hG⟩ := hv
  have hx := B.exec
  have hb := B.bytes
  have hr := B.returns
  have hts := atoms_spec (ws := wsX2_isToldIn) B.pre
  have hown : s.vm.findClass RX2 = some m.cls := findClass_of_methodNamed B.named
  have hlocks := B.notSynchronized
  subst hsz
  have hD := hD0.self (sz := s.heap.size)
  generalize hAe : va_A [oX2 a_th (.ref a_left) q_row, aQ cQ a_left 4 (q4 a_left_r0 a_left_r1 a_left_r2 a_left_r3), aI cI a_left_r3 7 v_left_r3, oX1 a_p1 (.int v_p1_facts) (.int v_p1_so) (.int v_p1_common) (.int v_p1_cases) (.int v_p1_firstTrueDay)] s.heap.size = A at hD hG ⊢
  have hA : ∀ q : Nat, s.heap.size ≤ q → A q := fun q h => by rw [← hAe]; exact Or.inr h
  have hS : va_S A s.heap s.heap [] := va_S.rf
  have hl := lv_entry ([.ref a_th, .ref a_p1, .int (3 : Int32), .int p_3, .int p_4, .int p_5]) (n := 7) (Nat.le_of_ble_eq_true rfl)
  rw [lg_entry_eq]
  generalize (lg_sl ([.ref a_th, .ref a_p1, .int (3 : Int32), .int p_3, .int p_4, .int p_5]) ++ List.replicate (7 - (lg_sl ([.ref a_th, .ref a_p1, .int (3 : Int32), .int p_3, .int p_4, .int p_5])).length) Slot.unset).toArray = ls at hl ⊢
  have hl : lv_has ls 7 [(0, .ref a_th), (1, .ref a_p1), (2, .int (3 : Int32)), (3, .int p_3), (4, .int p_4), (5, .int p_5)] := hl
  have iX2 : ∀ w ∈ wsX20, w ∈ wsX2_isToldIn := fun _ h => List.mem_cons_of_mem _ (List.mem_append_left _ (List.mem_append_right _ h))
  have iX1 : ∀ w ∈ wsX10, w ∈ wsX2_isToldIn := fun _ h => List.mem_cons_of_mem _ (List.mem_append_right _ h)
  have f11 := hts (.fieldLink RX2 11 "TrueOnceWeek$Foresight" "left" "[[I") (by decide +kernel)
  refine kb_gen (fun Q hQ => ?_)
  unfold m_X2_isToldIn_k3 at hm
  refine lv_aload_n hx hb dX2_isToldIn_0 rfl (lv_at hl 0 rfl) ?_
  refine va_get (D := (dC, dI)) (ci := 2) (v := .ref a_left) (C := RX2) (T := TX2) (N := 2) hx hb hts iX2 hown hK hP 0 rfl rfl 0 (by decide) f11 (fun _ h9 => h9) rfl dX2_isToldIn_1 ?_
  refine lv_iload_n hx hb dX2_isToldIn_4 rfl (lv_at hl 2 rfl) ?_
  refine kb_aald (y := a_left_r3) hx hb hK hP 1 3 rfl rfl (inB_s (by decide)) rfl dX2_isToldIn_5 ?_
  refine lv_iload hx hb dX2_isToldIn_6 (lv_at hl 4 rfl) ?_
  obtain ⟨r1, ho2, hm⟩ := bd1_s hm
  refine kb_calli (Rv := r1) (va_runS (As := [.ref a_left_r3, .int p_4]) (rest := []) ⟨hx, hb, hml, hown, hts⟩ (c_X2_kindsLeft l dC dI cI cJ cZ cQ t s.heap.size a_left_r3 7 v_left_r3 p_4 (r1) ho2) (va_cwS 2 hts gX2_isToldIn_X2_kindsLeft rfl rfl rfl (by decide +kernel) ⟨(Nat.le_of_ble_eq_true rfl), (Nat.le_of_ble_eq_true rfl)⟩) (kb_pre hK hG hP (kb_D hD rfl) hS hA [2] rfl (by decide)) rfl rfl hl.1 rfl (lv_room (Nat.le_of_ble_eq_true rfl)) dX2_isToldIn_8 ⟨Nat.zero_le _, Nat.zero_le _⟩) hP (kb_D hD rfl) hS hA [2] rfl [(false, 0), (false, 1), (true, 0), (false, 3)] (w2 := [oX2 a_th (.ref a_left) q_row, aQ cQ a_left 4 (q4 a_left_r0 a_left_r1 a_left_r2 a_left_r3), aI cI a_left_r3 7 v_left_r3, oX1 a_p1 (.int v_p1_facts) (.int v_p1_so) (.int v_p1_common) (.int v_p1_cases) (.int v_p1_firstTrueDay)]) rfl (by decide) (fun H locs hP hS => ?_)
  refine lv_istore (lv' := [(6, .int r1), (0, .ref a_th), (1, .ref a_p1), (2, .int (3 : Int32)), (3, .int p_3), (4, .int p_4), (5, .int p_5)]) hx hb dX2_isToldIn_11 hl (by decide) rfl (fun ls hl => ?_)
  refine lv_iload hx hb dX2_isToldIn_13 (lv_at hl 0 rfl) ?_
  refine lv_iconst (v := (1 : Int32)) hx hb dX2_isToldIn_15 (by decide) ?_
  refine lv_icmp_gt (tgt := 21) hx hb dX2_isToldIn_16 (by decide) (fun c3 => ?_) (fun c3 => ?_)
  · replace hm := ite_t c3 hm
    refine lv_iload hx hb dX2_isToldIn_21 (lv_at hl 0 rfl) ?_
    refine lv_iconst (v := (1 : Int32)) hx hb dX2_isToldIn_23 (by decide) ?_
    refine lv_iload_n hx hb dX2_isToldIn_24 rfl (lv_at hl 4 rfl) ?_
    refine lv_ishl hx hb dX2_isToldIn_25 ?_
    refine lv_icmp_le (tgt := 31) hx hb dX2_isToldIn_26 (by decide) (fun c4 => ?_) (fun c4 => ?_)
    · replace hm := ite_t c4 hm
      refine lv_aload_n hx hb dX2_isToldIn_31 rfl (lv_at hl 1 rfl) ?_
      refine lv_aload_n hx hb dX2_isToldIn_32 rfl (lv_at hl 2 rfl) ?_
      refine lv_iload_n hx hb dX2_isToldIn_33 rfl (lv_at hl 3 rfl) ?_
      refine lv_iload_n hx hb dX2_isToldIn_34 rfl (lv_at hl 4 rfl) ?_
      refine lv_iload hx hb dX2_isToldIn_35 (lv_at hl 5 rfl) ?_
      refine lv_iload hx hb dX2_isToldIn_37 (lv_at hl 6 rfl) ?_
      obtain ⟨r5, ho6, hm⟩ := bd1_s hm
      refine kb_calli (Rv := r5) (va_runV (As := [.ref a_p1, .int (3 : Int32), .int p_3, .int p_4, .int p_5]) (rest := []) ⟨hx, hb, hml, hown, hts⟩ (c_X2_leastThatTells_k3 l dC dI cI cJ cZ cQ t H.size a_th a_p1 (.ref a_left) q_row v_p1_facts v_p1_so v_p1_common v_p1_cases v_p1_firstTrueDay p_3 p_4 p_5 (r5) ho6) (cwV 5 hts gX2_isToldIn_X2_leastThatTells rfl rfl rfl (by decide +kernel) ⟨(Nat.le_of_ble_eq_true rfl), (Nat.le_of_ble_eq_true rfl)⟩) ⟨(kb_pre hK hG hP (kb_D hD rfl) hS hA [0, 3] rfl (by decide)).1, (va_recv hK hP (ci := 2) (q0 := 0) rfl rfl), (kb_pre hK hG hP (kb_D hD rfl) hS hA [0, 3] rfl (by decide)).2⟩ rfl rfl hl.1 rfl (lv_room (Nat.le_of_ble_eq_true rfl)) dX2_isToldIn_39 ⟨Nat.zero_le _, Nat.zero_le _⟩) hP (kb_D hD rfl) hS hA [0, 3] rfl [(true, 0), (false, 1), (false, 2), (true, 1)] (w2 := [oX2 a_th (.ref a_left) q_row, aQ cQ a_left 4 (q4 a_left_r0 a_left_r1 a_left_r2 a_left_r3), aI cI a_left_r3 7 v_left_r3, oX1 a_p1 (.int v_p1_facts) (.int v_p1_so) (.int v_p1_common) (.int v_p1_cases) (.int v_p1_firstTrueDay)]) rfl (by decide) (fun H locs hP hS => ?_)
      refine lv_bipush (v := (-9 : Int32)) hx hb dX2_isToldIn_42 (by decide) ?_
      refine lv_icmp_eq (tgt := 51) hx hb dX2_isToldIn_44 (by decide) (fun c7 => ?_) (fun c7 => ?_)
      · replace hm := ite_t c7 hm
        refine lv_iconst (v := (0 : Int32)) hx hb dX2_isToldIn_51 (by decide) ?_
        obtain rfl := Option.some.inj hm
        subst hQ
        exact W.zret hx hb hr rfl (fun t ht hW => ⟨⟨_, (), rfl, rfl, kb_h hP ht⟩, hS.F ht⟩) hS.2.2 dX2_isToldIn_52
      · replace hm := ite_f c7 hm
        refine lv_iconst (v := (1 : Int32)) hx hb dX2_isToldIn_47 (by decide) ?_
        refine lv_goto (tgt := 52) hx hb dX2_isToldIn_48 (by decide) ?_
        obtain rfl := Option.some.inj hm
        subst hQ
        exact W.zret hx hb hr rfl (fun t ht hW => ⟨⟨_, (), rfl, rfl, kb_h hP ht⟩, hS.F ht⟩) hS.2.2 dX2_isToldIn_52
    · replace hm := ite_f c4 hm
      refine lv_iconst (v := (0 : Int32)) hx hb dX2_isToldIn_29 (by decide) ?_
      obtain rfl := Option.some.inj hm
      subst hQ
      exact W.zret hx hb hr rfl (fun t ht hW => ⟨⟨_, (), rfl, rfl, kb_h hP ht⟩, hS.F ht⟩) hS.2.2 dX2_isToldIn_30
  · replace hm := ite_f c3 hm
    refine lv_iconst (v := (1 : Int32)) hx hb dX2_isToldIn_19 (by decide) ?_
    obtain rfl := Option.some.inj hm
    subst hQ
    exact W.zret hx hb hr rfl (fun t ht hW => ⟨⟨_, (), rfl, rfl, kb_h hP ht⟩, hS.F ht⟩) hS.2.2 dX2_isToldIn_20
set_option maxHeartbeats 4000000 in
set_option maxRecDepth 100000 in
theorem c_X2_tellsBehind_k2 (l : Launch) (dC : Nat → ClassId) (dI : Nat → Nat → Nat) (cI cJ cZ cQ : ClassId) (t sz : Nat) (a_th : Nat) (a_left : Nat) (a_left_r2 : Nat) (a_left_r3 : Nat) (a_p1 : Nat) (a_left_r0 : Nat) (a_left_r1 : Nat) (q_row : Value) (v_left_r2 : (Nat → Int32)) (v_left_r3 : (Nat → Int32)) (v_p1_facts : Int32) (v_p1_so : Int32) (v_p1_common : Int32) (v_p1_cases : Int32) (v_p1_firstTrueDay : Int32) (p_2 : Int32) (p_4 : Int32) (p_5 : Int32) (p_6 : Int32) (o : Int32 × (Nat → Int32)) (hm : m_X2_tellsBehind_k2 p_2 p_4 p_5 p_6 v_left_r2 v_left_r3 v_p1_facts = some o) : Met l yX2_tellsBehind wsX2_tellsBehind { frames := 4, cells := 0, slots := 0, locals := 95 } (va_Pc [.ref a_th, .ref a_p1, .int p_2, .int (2 : Int32), .int p_4, .int p_5, .int p_6] (cP (dC, dI) (kT cI cJ cZ cQ) t sz [oX2 a_th (.ref a_left) q_row, aQ cQ a_left 4 (q4 a_left_r0 a_left_r1 a_left_r2 a_left_r3), aI cI a_left_r2 7 v_left_r2, aI cI a_left_r3 7 v_left_r3, oX1 a_p1 (.int v_p1_facts) (.int v_p1_so) (.int v_p1_common) (.int v_p1_cases) (.int v_p1_firstTrueDay)])) (cQi (dC, dI) (va_A [oX2 a_th (.ref a_left) q_row, aQ cQ a_left 4 (q4 a_left_r0 a_left_r1 a_left_r2 a_left_r3), aI cI a_left_r2 7 v_left_r2, aI cI a_left_r3 7 v_left_r3, oX1 a_p1 (.int v_p1_facts) (.int v_p1_so) (.int v_p1_common) (.int v_p1_cases) (.int v_p1_firstTrueDay)] sz) o.1 [oX2 a_th (.ref a_left) q_row, aQ cQ a_left 4 (q4 a_left_r0 a_left_r1 a_left_r2 a_left_r3), aI cI a_left_r2 7 v_left_r2, aI cI a_left_r3 7 (o.2), oX1 a_p1 (.int v_p1_facts) (.int v_p1_so) (.int v_p1_common) (.int v_p1_cases) (.int v_p1_firstTrueDay)]) 0 0 (va_A [oX2 a_th (.ref a_left) q_row, aQ cQ a_left 4 (q4 a_left_r0 a_left_r1 a_left_r2 a_left_r3), aI cI a_left_r2 7 v_left_r2, aI cI a_left_r3 7 v_left_r3, oX1 a_p1 (.int v_p1_facts) (.int v_p1_so) (.int v_p1_common) (.int v_p1_cases) (.int v_p1_firstTrueDay)] sz) := by
  refine Met.ofW (cc := cX2_tellsBehind) (maxL := 8) (ret := (some .boolean)) (by decide) rfl ?_
  intro p e s m args below meth c s₁ B hml hv
  obtain ⟨rfl, hsz, hP, hK, hD0, hG⟩ := hv
  have hx := B.exec
  have hb := B.bytes
  have hr := B.returns
  have hts := atoms_spec (ws := wsX2_tellsBehind) B.pre
  have hown : s.vm.findClass RX2 = some m.cls := findClass_of_methodNamed B.named
  have hlocks := B.notSynchronized
  subst hsz
  have hD := hD0.self (sz := s.heap.size)
  generalize hAe : va_A [oX2 a_th (.ref a_left) q_row, aQ cQ a_left 4 (q4 a_left_r0 a_left_r1 a_left_r2 a_left_r3), aI cI a_left_r2 7 v_left_r2, aI cI a_left_r3 7 v_left_r3, oX1 a_p1 (.int v_p1_facts) (.int v_p1_so) (.int v_p1_common) (.int v_p1_cases) (.int v_p1_firstTrueDay)] s.heap.size = A at hD hG ⊢
  have hA : ∀ q : Nat, s.heap.size ≤ q → A q := fun q h => by rw [← hAe]; exact Or.inr h
  have hS : va_S A s.heap s.heap [] := va_S.rf
  have hl := lv_entry ([.ref a_th, .ref a_p1, .int p_2, .int (2 : Int32), .int p_4, .int p_5, .int p_6]) (n := 8) (Nat.le_of_ble_eq_true rfl)
  rw [lg_entry_eq]
  generalize (lg_sl ([.ref a_th, .ref a_p1, .int p_2, .int (2 : Int32), .int p_4, .int p_5, .int p_6]) ++ List.replicate (8 - (lg_sl ([.ref a_th, .ref a_p1, .int p_2, .int (2 : Int32), .int p_4, .int p_5, .int p_6])).length) Slot.unset).toArray = ls at hl ⊢
  have hl : lv_has ls 8 [(0, .ref a_th), (1, .ref a_p1), (2, .int p_2), (3, .int (2 : Int32)), (4, .int p_4), (5, .int p_5), (6, .int p_6)] := hl
  have iX2 : ∀ w ∈ wsX20, w ∈ wsX2_tellsBehind := fun _ h => List.mem_cons_of_mem _ (List.mem_append_left _ (List.mem_append_right _ h))
  have iX1 : ∀ w ∈ wsX10, w ∈ wsX2_tellsBehind := fun _ h => List.mem_cons_of_mem _ (List.mem_append_right _ h)
  have f11 := hts (.fieldLink RX2 11 "TrueOnceWeek$Foresight" "left" "[[I") (by decide +kernel)
  refine kb_gen (fun Q hQ => ?_)
  unfold m_X2_tellsBehind_k2 at hm
  refine lv_iload_n hx hb dX2_tellsBehind_0 rfl (lv_at hl 3 rfl) ?_
  refine lv_if_lt (tgt := 9) hx hb dX2_tellsBehind_1 (by decide) (fun c1 => ?_) (fun c1 => ?_)
  · exact absurd c1 (by decide)
  refine lv_iload_n hx hb dX2_tellsBehind_4 rfl (lv_at hl 3 rfl) ?_
  refine lv_iconst (v := (3 : Int32)) hx hb dX2_tellsBehind_5 (by decide) ?_
  refine lv_icmp_lt (tgt := 11) hx hb dX2_tellsBehind_6 (by decide) (fun c2 => ?_) (fun c2 => ?_)
  rotate_left
  · exact absurd (by decide) c2
  refine lv_iconst (v := (0 : Int32)) hx hb dX2_tellsBehind_11 (by decide) ?_
  refine lv_istore (lv' := [(7, .int (0 : Int32)), (0, .ref a_th), (1, .ref a_p1), (2, .int p_2), (3, .int (2 : Int32)), (4, .int p_4), (5, .int p_5), (6, .int p_6)]) hx hb dX2_tellsBehind_12 hl (by decide) rfl (fun ls hl => ?_)
  have lp14 : ∀ (n14 : Nat) (x3 : Int32) (w4 : (Nat → Int32)) (k14 : (Nat → Int32) → Option (Int32 × (Nat → Int32))) (H : Heap) (locs : List Loc) (ls : Array Slot), L_X2_tellsBehind_k2_14 v_left_r2 v_p1_facts p_2 p_4 p_5 p_6 n14 x3 w4 k14 = some o → (∀ (w5 : (Nat → Int32)) (H : Heap) (locs : List Loc) (ls : Array Slot), k14 w5 = some o → va_P (dC, dI) vwCl [oX2 a_th (.ref a_left) q_row, aQ cQ a_left 4 (q4 a_left_r0 a_left_r1 a_left_r2 a_left_r3), aI cI a_left_r2 7 v_left_r2, aI cI a_left_r3 7 w5, oX1 a_p1 (.int v_p1_facts) (.int v_p1_so) (.int v_p1_common) (.int v_p1_cases) (.int v_p1_firstTrueDay)] H → va_S A s.heap H locs → lv_has ls 8 [] → W p l e (headSpec wsX2_tellsBehind { frames := 4, cells := 0, slots := 0, locals := 95 }).room s m [.ref a_th, .ref a_p1, .int p_2, .int (2 : Int32), .int p_4, .int p_5, .int p_6].toArray below meth c H locs 0 0 Q (F0 m 74 ls [])) → va_P (dC, dI) vwCl [oX2 a_th (.ref a_left) q_row, aQ cQ a_left 4 (q4 a_left_r0 a_left_r1 a_left_r2 a_left_r3), aI cI a_left_r2 7 v_left_r2, aI cI a_left_r3 7 w4, oX1 a_p1 (.int v_p1_facts) (.int v_p1_so) (.int v_p1_common) (.int v_p1_cases) (.int v_p1_firstTrueDay)] H → va_S A s.heap H locs → lv_has ls 8 [(0, .ref a_th), (1, .ref a_p1), (2, .int p_2), (3, .int (2 : Int32)), (4, .int p_4), (5, .int p_5), (6, .int p_6), (7, .int x3)] → W p l e (headSpec wsX2_tellsBehind { frames := 4, cells := 0, slots := 0, locals := 95 }).room s m [.ref a_th, .ref a_p1, .int p_2, .int (2 : Int32), .int p_4, .int p_5, .int p_6].toArray below meth c H locs 0 0 Q (F0 m 14 ls []) := by
    intro n14
    induction n14 with
    | zero =>
      intro x3 w4 k14 H locs ls hm
      cases (show (none : Option (Int32 × (Nat → Int32))) = some o from hm)
    | succ n14 ih14 =>
      intro x3 w4 k14 H locs ls hm hk14 hP hS hl
      rw [L_X2_tellsBehind_k2_14.eq_2] at hm
      refine lv_iload hx hb dX2_tellsBehind_14 (lv_at hl 7 rfl) ?_
      refine lv_iconst (v := (3 : Int32)) hx hb dX2_tellsBehind_16 (by decide) ?_
      refine lv_icmp_ge (tgt := 74) hx hb dX2_tellsBehind_17 (by decide) (fun c6 => ?_) (fun c6 => ?_)
      · replace hm := ite_t c6 hm
        exact hk14 w4 _ _ _ hm hP hS (lv_sub hl [] rfl)
      · replace hm := ite_f c6 hm
        refine lv_aload_n hx hb dX2_tellsBehind_20 rfl (lv_at hl 0 rfl) ?_
        refine va_get (D := (dC, dI)) (ci := 2) (v := .ref a_left) (C := RX2) (T := TX2) (N := 2) hx hb hts iX2 hown hK hP 0 rfl rfl 0 (by decide) f11 (fun _ h9 => h9) rfl dX2_tellsBehind_21 ?_
        refine lv_iload_n hx hb dX2_tellsBehind_24 rfl (lv_at hl 3 rfl) ?_
        refine kb_aald (y := a_left_r2) hx hb hK hP 1 3 rfl rfl (inB_s (by decide)) rfl dX2_tellsBehind_25 ?_
        refine lv_aload_n hx hb dX2_tellsBehind_26 rfl (lv_at hl 0 rfl) ?_
        refine va_get (D := (dC, dI)) (ci := 2) (v := .ref a_left) (C := RX2) (T := TX2) (N := 2) hx hb hts iX2 hown hK hP 0 rfl rfl 0 (by decide) f11 (fun _ h9 => h9) rfl dX2_tellsBehind_27 ?_
        refine lv_iload_n hx hb dX2_tellsBehind_30 rfl (lv_at hl 3 rfl) ?_
        refine lv_iconst (v := (1 : Int32)) hx hb dX2_tellsBehind_31 (by decide) ?_
        refine lv_iadd hx hb dX2_tellsBehind_32 ?_
        refine lv_topi (fun z7 ez7 => ?_)
        obtain rfl : z7 = (3 : Int32) := ez7.trans (by decide)
        refine kb_aald (y := a_left_r3) hx hb hK hP 1 3 rfl rfl (inB_s (by decide)) rfl dX2_tellsBehind_33 ?_
        refine lv_iload_n hx hb dX2_tellsBehind_34 rfl (lv_at hl 2 rfl) ?_
        refine lv_iload hx hb dX2_tellsBehind_35 (lv_at hl 7 rfl) ?_
        refine lv_iload hx hb dX2_tellsBehind_37 (lv_at hl 6 rfl) ?_
        refine lv_bipush (v := (7 : Int32)) hx hb dX2_tellsBehind_39 (by decide) ?_
        refine lv_irem hx hb dX2_tellsBehind_41 (by decide) ?_
        obtain ⟨w8, ho9, hm⟩ := bd1_s hm
        refine kb_callv (va_runS (As := [.ref a_left_r2, .ref a_left_r3, .int p_2, .int x3, .int (p_6 - p_6 / (7 : Int32) * (7 : Int32))]) (rest := []) ⟨hx, hb, hml, hown, hts⟩ (c_X8_narrow l dC dI cI cJ cZ cQ t H.size a_left_r2 a_left_r3 7 7 v_left_r2 w4 p_2 x3 (p_6 - p_6 / (7 : Int32) * (7 : Int32)) (w8) ho9) (va_cwS 5 hts gX2_tellsBehind_X8_narrow rfl rfl rfl (by decide +kernel) ⟨(Nat.le_of_ble_eq_true rfl), (Nat.le_of_ble_eq_true rfl)⟩) (kb_pre hK hG hP (kb_D hD rfl) hS hA [2, 3] rfl (by decide)) rfl rfl hl.1 rfl (lv_room (Nat.le_of_ble_eq_true rfl)) dX2_tellsBehind_42 ⟨Nat.zero_le _, Nat.zero_le _⟩) hP (kb_D hD rfl) hS hA [2, 3] rfl [(false, 0), (false, 1), (true, 0), (true, 1), (false, 4)] (w2 := [oX2 a_th (.ref a_left) q_row, aQ cQ a_left 4 (q4 a_left_r0 a_left_r1 a_left_r2 a_left_r3), aI cI a_left_r2 7 v_left_r2, aI cI a_left_r3 7 w8, oX1 a_p1 (.int v_p1_facts) (.int v_p1_so) (.int v_p1_common) (.int v_p1_cases) (.int v_p1_firstTrueDay)]) rfl (by decide) (fun H locs hP hS => ?_)
        refine lv_aload_n hx hb dX2_tellsBehind_45 rfl (lv_at hl 0 rfl) ?_
        refine lv_aload_n hx hb dX2_tellsBehind_46 rfl (lv_at hl 1 rfl) ?_
        refine lv_iload_n hx hb dX2_tellsBehind_47 rfl (lv_at hl 3 rfl) ?_
        refine lv_iconst (v := (1 : Int32)) hx hb dX2_tellsBehind_48 (by decide) ?_
        refine lv_iadd hx hb dX2_tellsBehind_49 ?_
        refine lv_topi (fun z10 ez10 => ?_)
        obtain rfl : z10 = (3 : Int32) := ez10.trans (by decide)
        refine lv_iload hx hb dX2_tellsBehind_50 (lv_at hl 4 rfl) ?_
        refine lv_iconst (v := (1 : Int32)) hx hb dX2_tellsBehind_52 (by decide) ?_
        refine lv_isub hx hb dX2_tellsBehind_53 ?_
        refine lv_iload hx hb dX2_tellsBehind_54 (lv_at hl 5 rfl) ?_
        refine lv_iload hx hb dX2_tellsBehind_56 (lv_at hl 6 rfl) ?_
        refine lv_iconst (v := (1 : Int32)) hx hb dX2_tellsBehind_58 (by decide) ?_
        refine lv_iadd hx hb dX2_tellsBehind_59 ?_
        obtain ⟨r11, ho12, hm⟩ := bd1_s hm
        refine kb_calli (Rv := r11) (va_runV (As := [.ref a_p1, .int (3 : Int32), .int (p_4 - (1 : Int32)), .int p_5, .int (p_6 + (1 : Int32))]) (rest := []) ⟨hx, hb, hml, hown, hts⟩ (c_X2_isToldIn_k3 l dC dI cI cJ cZ cQ t H.size a_th a_left a_left_r3 a_p1 a_left_r0 a_left_r1 a_left_r2 q_row w8 v_p1_facts v_p1_so v_p1_common v_p1_cases v_p1_firstTrueDay (p_4 - (1 : Int32)) p_5 (p_6 + (1 : Int32)) (r11) ho12) (cwV 5 hts gX2_tellsBehind_X2_isToldIn rfl rfl rfl (by decide +kernel) ⟨(Nat.le_of_ble_eq_true rfl), (Nat.le_of_ble_eq_true rfl)⟩) ⟨(kb_pre hK hG hP (kb_D hD rfl) hS hA [0, 1, 3, 4] rfl (by decide)).1, (va_recv hK hP (ci := 2) (q0 := 0) rfl rfl), (kb_pre hK hG hP (kb_D hD rfl) hS hA [0, 1, 3, 4] rfl (by decide)).2⟩ rfl rfl hl.1 rfl (lv_room (Nat.le_of_ble_eq_true rfl)) dX2_tellsBehind_60 ⟨Nat.zero_le _, Nat.zero_le _⟩) hP (kb_D hD rfl) hS hA [0, 1, 3, 4] rfl [(true, 0), (true, 1), (false, 2), (true, 2), (true, 3)] (w2 := [oX2 a_th (.ref a_left) q_row, aQ cQ a_left 4 (q4 a_left_r0 a_left_r1 a_left_r2 a_left_r3), aI cI a_left_r2 7 v_left_r2, aI cI a_left_r3 7 w8, oX1 a_p1 (.int v_p1_facts) (.int v_p1_so) (.int v_p1_common) (.int v_p1_cases) (.int v_p1_firstTrueDay)]) rfl (by decide) (fun H locs hP hS => ?_)
        refine lv_if_ne (tgt := 68) hx hb dX2_tellsBehind_63 (by decide) (fun c13 => ?_) (fun c13 => ?_)
        · replace hm := ite_f c13 hm
          obtain ⟨x14, ex14⟩ : ∃ y : Int32, y = x3 + (1 : Int32) := ⟨_, rfl⟩
          replace hm := nm_t ex14 hm
          refine lv_iinc (v := x14) (lv' := [(7, .int x14), (0, .ref a_th), (1, .ref a_p1), (2, .int p_2), (3, .int (2 : Int32)), (4, .int p_4), (5, .int p_5), (6, .int p_6)]) hx hb dX2_tellsBehind_68 hl (k := 7) rfl (by rw [ex14]; rfl) (by decide) rfl (fun ls hl => ?_)
          refine lv_goto (tgt := 14) hx hb dX2_tellsBehind_71 (by decide) ?_
          exact ih14 x14 w8 k14 _ _ _ hm hk14 hP hS (lv_sub hl [1, 2, 3, 4, 5, 6, 7, 0] rfl)
        · replace hm := ite_t c13 hm
          refine lv_iconst (v := (0 : Int32)) hx hb dX2_tellsBehind_66 (by decide) ?_
          obtain rfl := Option.some.inj hm
          subst hQ
          exact W.zret hx hb hr rfl (fun t ht hW => ⟨⟨_, (), rfl, rfl, kb_h hP ht⟩, hS.F ht⟩) hS.2.2 dX2_tellsBehind_67
  refine lp14 1024 (0 : Int32) v_left_r3 _ _ _ _ hm (fun w5 H locs ls hm hP hS hl => ?_) hP hS (lv_sub hl [1, 2, 3, 4, 5, 6, 7, 0] rfl)
  refine lv_iconst (v := (1 : Int32)) hx hb dX2_tellsBehind_74 (by decide) ?_
  obtain rfl := Option.some.inj hm
  subst hQ
  exact W.zret hx hb hr rfl (fun t ht hW => ⟨⟨_, (), rfl, rfl, kb_h hP ht⟩, hS.F ht⟩) hS.2.2 dX2_tellsBehind_75
set_option maxHeartbeats 4000000 in
set_option maxRecDepth 100000 in
theorem c_X2_leastThatTells_k2 (l : Launch) (dC : Nat → ClassId) (dI : Nat → Nat → Nat) (cI cJ cZ cQ : ClassId) (t sz : Nat) (a_th : Nat) (a_p1 : Nat) (a_left : Nat) (a_left_r2 : Nat) (a_left_r3 : Nat) (a_left_r0 : Nat) (a_left_r1 : Nat) (q_row : Value) (v_p1_facts : Int32) (v_p1_so : Int32) (v_p1_common : Int32) (v_p1_cases : Int32) (v_p1_firstTrueDay : Int32) (v_left_r2 : (Nat → Int32)) (v_left_r3 : (Nat → Int32)) (p_3 : Int32) (p_4 : Int32) (p_5 : Int32) (o : Int32 × (Nat → Int32)) (hm : m_X2_leastThatTells_k2 p_3 p_4 p_5 v_p1_facts v_left_r2 v_left_r3 = some o) : Met l yX2_leastThatTells wsX2_leastThatTells { frames := 5, cells := 0, slots := 0, locals := 122 } (va_Pc [.ref a_th, .ref a_p1, .int (2 : Int32), .int p_3, .int p_4, .int p_5] (cP (dC, dI) (kT cI cJ cZ cQ) t sz [oX2 a_th (.ref a_left) q_row, oX1 a_p1 (.int v_p1_facts) (.int v_p1_so) (.int v_p1_common) (.int v_p1_cases) (.int v_p1_firstTrueDay), aQ cQ a_left 4 (q4 a_left_r0 a_left_r1 a_left_r2 a_left_r3), aI cI a_left_r2 7 v_left_r2, aI cI a_left_r3 7 v_left_r3])) (cQi (dC, dI) (va_A [oX2 a_th (.ref a_left) q_row, oX1 a_p1 (.int v_p1_facts) (.int v_p1_so) (.int v_p1_common) (.int v_p1_cases) (.int v_p1_firstTrueDay), aQ cQ a_left 4 (q4 a_left_r0 a_left_r1 a_left_r2 a_left_r3), aI cI a_left_r2 7 v_left_r2, aI cI a_left_r3 7 v_left_r3] sz) o.1 [oX2 a_th (.ref a_left) q_row, oX1 a_p1 (.int v_p1_facts) (.int v_p1_so) (.int v_p1_common) (.int v_p1_cases) (.int v_p1_firstTrueDay), aQ cQ a_left 4 (q4 a_left_r0 a_left_r1 a_left_r2 a_left_r3), aI cI a_left_r2 7 v_left_r2, aI cI a_left_r3 7 (o.2)]) 0 0 (va_A [oX2 a_th (.ref a_left) q_row, oX1 a_p1 (.int v_p1_facts) (.int v_p1_so) (.int v_p1_common) (.int v_p1_cases) (.int v_p1_firstTrueDay), aQ cQ a_left 4 (q4 a_left_r0 a_left_r1 a_left_r2 a_left_r3), aI cI a_left_r2 7 v_left_r2, aI cI a_left_r3 7 v_left_r3] sz) := by
  refine Met.ofW (cc := cX2_leastThatTells) (maxL := 7) (ret := (some .int)) (by decide) rfl ?_
  intro p e s m args below meth c s₁ B hml hv
  obtain ⟨rfl, hsz, hP, hK, hD0, hG⟩ := hv
  have hx := B.exec
  have hb := B.bytes
  have hr := B.returns
  have hts := atoms_spec (ws := wsX2_leastThatTells) B.pre
  have hown : s.vm.findClass RX2 = some m.cls := findClass_of_methodNamed B.named
  have hlocks := B.notSynchronized
  subst hsz
  have hD := hD0.self (sz := s.heap.size)
  generalize hAe : va_A [oX2 a_th (.ref a_left) q_row, oX1 a_p1 (.int v_p1_facts) (.int v_p1_so) (.int v_p1_common) (.int v_p1_cases) (.int v_p1_firstTrueDay), aQ cQ a_left 4 (q4 a_left_r0 a_left_r1 a_left_r2 a_left_r3), aI cI a_left_r2 7 v_left_r2, aI cI a_left_r3 7 v_left_r3] s.heap.size = A at hD hG ⊢
  have hA : ∀ q : Nat, s.heap.size ≤ q → A q := fun q h => by rw [← hAe]; exact Or.inr h
  have hS : va_S A s.heap s.heap [] := va_S.rf
  have hl := lv_entry ([.ref a_th, .ref a_p1, .int (2 : Int32), .int p_3, .int p_4, .int p_5]) (n := 7) (Nat.le_of_ble_eq_true rfl)
  rw [lg_entry_eq]
  generalize (lg_sl ([.ref a_th, .ref a_p1, .int (2 : Int32), .int p_3, .int p_4, .int p_5]) ++ List.replicate (7 - (lg_sl ([.ref a_th, .ref a_p1, .int (2 : Int32), .int p_3, .int p_4, .int p_5])).length) Slot.unset).toArray = ls at hl ⊢
  have hl : lv_has ls 7 [(0, .ref a_th), (1, .ref a_p1), (2, .int (2 : Int32)), (3, .int p_3), (4, .int p_4), (5, .int p_5)] := hl
  have iX2 : ∀ w ∈ wsX20, w ∈ wsX2_leastThatTells := fun _ h => List.mem_cons_of_mem _ (List.mem_append_left _ (List.mem_append_right _ h))
  have iX1 : ∀ w ∈ wsX10, w ∈ wsX2_leastThatTells := fun _ h => List.mem_cons_of_mem _ (List.mem_append_right _ h)
  refine kb_gen (fun Q hQ => ?_)
  unfold m_X2_leastThatTells_k2 at hm
  refine lv_iconst (v := (0 : Int32)) hx hb dX2_leastThatTells_0 (by decide) ?_
  refine lv_istore (lv' := [(6, .int (0 : Int32)), (0, .ref a_th), (1, .ref a_p1), (2, .int (2 : Int32)), (3, .int p_3), (4, .int p_4), (5, .int p_5)]) hx hb dX2_leastThatTells_1 hl (by decide) rfl (fun ls hl => ?_)
  have lp3 : ∀ (n3 : Nat) (x1 : Int32) (w2 : (Nat → Int32)) (k3 : (Nat → Int32) → Option (Int32 × (Nat → Int32))) (H : Heap) (locs : List Loc) (ls : Array Slot), L_X2_leastThatTells_k2_3 v_p1_facts v_left_r2 p_3 p_4 p_5 n3 x1 w2 k3 = some o → (∀ (w3 : (Nat → Int32)) (H : Heap) (locs : List Loc) (ls : Array Slot), k3 w3 = some o → va_P (dC, dI) vwCl [oX2 a_th (.ref a_left) q_row, oX1 a_p1 (.int v_p1_facts) (.int v_p1_so) (.int v_p1_common) (.int v_p1_cases) (.int v_p1_firstTrueDay), aQ cQ a_left 4 (q4 a_left_r0 a_left_r1 a_left_r2 a_left_r3), aI cI a_left_r2 7 v_left_r2, aI cI a_left_r3 7 w3] H → va_S A s.heap H locs → lv_has ls 7 [] → W p l e (headSpec wsX2_leastThatTells { frames := 5, cells := 0, slots := 0, locals := 122 }).room s m [.ref a_th, .ref a_p1, .int (2 : Int32), .int p_3, .int p_4, .int p_5].toArray below meth c H locs 0 0 Q (F0 m 44 ls [])) → va_P (dC, dI) vwCl [oX2 a_th (.ref a_left) q_row, oX1 a_p1 (.int v_p1_facts) (.int v_p1_so) (.int v_p1_common) (.int v_p1_cases) (.int v_p1_firstTrueDay), aQ cQ a_left 4 (q4 a_left_r0 a_left_r1 a_left_r2 a_left_r3), aI cI a_left_r2 7 v_left_r2, aI cI a_left_r3 7 w2] H → va_S A s.heap H locs → lv_has ls 7 [(0, .ref a_th), (1, .ref a_p1), (2, .int (2 : Int32)), (3, .int p_3), (4, .int p_4), (5, .int p_5), (6, .int x1)] → W p l e (headSpec wsX2_leastThatTells { frames := 5, cells := 0, slots := 0, locals := 122 }).room s m [.ref a_th, .ref a_p1, .int (2 : Int32), .int p_3, .int p_4, .int p_5].toArray below meth c H locs 0 0 Q (F0 m 3 ls []) := by
    intro n3
    induction n3 with
    | zero =>
      intro x1 w2 k3 H locs ls hm
      cases (show (none : Option (Int32 × (Nat → Int32))) = some o from hm)
    | succ n3 ih3 =>
      intro x1 w2 k3 H locs ls hm hk3 hP hS hl
      rw [L_X2_leastThatTells_k2_3.eq_2] at hm
      refine lv_iload hx hb dX2_leastThatTells_3 (lv_at hl 6 rfl) ?_
      refine lv_bipush (v := (19 : Int32)) hx hb dX2_leastThatTells_5 (by decide) ?_
      refine lv_icmp_ge (tgt := 44) hx hb dX2_leastThatTells_7 (by decide) (fun c4 => ?_) (fun c4 => ?_)
      · replace hm := ite_t c4 hm
        exact hk3 w2 _ _ _ hm hP hS (lv_sub hl [] rfl)
      · replace hm := ite_f c4 hm
        refine lv_aload_n hx hb dX2_leastThatTells_10 rfl (lv_at hl 1 rfl) ?_
        refine lv_iload hx hb dX2_leastThatTells_11 (lv_at hl 6 rfl) ?_
        obtain ⟨r5, ho6, hm⟩ := bd1_s hm
        refine kb_calli (Rv := r5) (va_runV (As := [.int x1]) (rest := []) ⟨hx, hb, hml, hown, hts⟩ (c_X1_hasSimple l dC dI cI cJ cZ cQ t H.size a_p1 v_p1_facts v_p1_so v_p1_common v_p1_cases v_p1_firstTrueDay x1 (r5) ho6) (cwV 1 hts gX2_leastThatTells_X1_hasSimple rfl rfl rfl (by decide +kernel) ⟨(Nat.le_of_ble_eq_true rfl), (Nat.le_of_ble_eq_true rfl)⟩) ⟨(kb_pre hK hG hP (kb_D hD rfl) hS hA [1] rfl (by decide)).1, (va_recv hK hP (ci := 1) (q0 := 1) rfl rfl), (kb_pre hK hG hP (kb_D hD rfl) hS hA [1] rfl (by decide)).2⟩ rfl rfl hl.1 rfl (lv_room (Nat.le_of_ble_eq_true rfl)) dX2_leastThatTells_13 ⟨Nat.zero_le _, Nat.zero_le _⟩) hP (kb_D hD rfl) hS hA [1] rfl [(false, 0), (true, 0), (false, 2), (false, 3), (false, 4)] (w2 := [oX2 a_th (.ref a_left) q_row, oX1 a_p1 (.int v_p1_facts) (.int v_p1_so) (.int v_p1_common) (.int v_p1_cases) (.int v_p1_firstTrueDay), aQ cQ a_left 4 (q4 a_left_r0 a_left_r1 a_left_r2 a_left_r3), aI cI a_left_r2 7 v_left_r2, aI cI a_left_r3 7 w2]) rfl (by decide) (fun H locs hP hS => ?_)
        obtain ⟨k38, ek38, hm⟩ := nm_s hm
        have J38 : ∀ (w7 : (Nat → Int32)) (H : Heap) (locs : List Loc) (ls : Array Slot), k38 w7 = some o → va_P (dC, dI) vwCl [oX2 a_th (.ref a_left) q_row, oX1 a_p1 (.int v_p1_facts) (.int v_p1_so) (.int v_p1_common) (.int v_p1_cases) (.int v_p1_firstTrueDay), aQ cQ a_left 4 (q4 a_left_r0 a_left_r1 a_left_r2 a_left_r3), aI cI a_left_r2 7 v_left_r2, aI cI a_left_r3 7 w7] H → va_S A s.heap H locs → lv_has ls 7 [(0, .ref a_th), (1, .ref a_p1), (2, .int (2 : Int32)), (3, .int p_3), (4, .int p_4), (5, .int p_5), (6, .int x1)] → W p l e (headSpec wsX2_leastThatTells { frames := 5, cells := 0, slots := 0, locals := 122 }).room s m [.ref a_th, .ref a_p1, .int (2 : Int32), .int p_3, .int p_4, .int p_5].toArray below meth c H locs 0 0 Q (F0 m 38 ls []) := by
          intro w7 H locs ls hm hP hS hl
          rw [ek38] at hm
          obtain ⟨x8, ex8⟩ : ∃ y : Int32, y = x1 + (1 : Int32) := ⟨_, rfl⟩
          replace hm := nm_t ex8 hm
          refine lv_iinc (v := x8) (lv' := [(6, .int x8), (0, .ref a_th), (1, .ref a_p1), (2, .int (2 : Int32)), (3, .int p_3), (4, .int p_4), (5, .int p_5)]) hx hb dX2_leastThatTells_38 hl (k := 6) rfl (by rw [ex8]; rfl) (by decide) rfl (fun ls hl => ?_)
          refine lv_goto (tgt := 3) hx hb dX2_leastThatTells_41 (by decide) ?_
          exact ih3 x8 w7 k3 _ _ _ hm hk3 hP hS (lv_sub hl [1, 2, 3, 4, 5, 6, 0] rfl)
        refine lv_if_eq (tgt := 38) hx hb dX2_leastThatTells_16 (by decide) (fun c9 => ?_) (fun c9 => ?_)
        · replace hm := ite_t c9 hm
          exact J38 w2 _ _ _ hm hP hS (lv_sub hl [0, 1, 2, 3, 4, 5, 6] rfl)
        · replace hm := ite_f c9 hm
          refine lv_aload_n hx hb dX2_leastThatTells_19 rfl (lv_at hl 0 rfl) ?_
          refine lv_aload_n hx hb dX2_leastThatTells_20 rfl (lv_at hl 1 rfl) ?_
          refine lv_iload hx hb dX2_leastThatTells_21 (lv_at hl 6 rfl) ?_
          refine lv_iload_n hx hb dX2_leastThatTells_23 rfl (lv_at hl 2 rfl) ?_
          refine lv_iload_n hx hb dX2_leastThatTells_24 rfl (lv_at hl 3 rfl) ?_
          refine lv_iload hx hb dX2_leastThatTells_25 (lv_at hl 4 rfl) ?_
          refine lv_iload hx hb dX2_leastThatTells_27 (lv_at hl 5 rfl) ?_
          obtain ⟨r10, w11, ho12, hm⟩ := bd2_s hm
          refine kb_calli (Rv := r10) (va_runV (As := [.ref a_p1, .int x1, .int (2 : Int32), .int p_3, .int p_4, .int p_5]) (rest := []) ⟨hx, hb, hml, hown, hts⟩ (c_X2_tellsBehind_k2 l dC dI cI cJ cZ cQ t H.size a_th a_left a_left_r2 a_left_r3 a_p1 a_left_r0 a_left_r1 q_row v_left_r2 w2 v_p1_facts v_p1_so v_p1_common v_p1_cases v_p1_firstTrueDay x1 p_3 p_4 p_5 (r10, w11) ho12) (cwV 6 hts gX2_leastThatTells_X2_tellsBehind rfl rfl rfl (by decide +kernel) ⟨(Nat.le_of_ble_eq_true rfl), (Nat.le_of_ble_eq_true rfl)⟩) ⟨(kb_pre hK hG hP (kb_D hD rfl) hS hA [0, 2, 3, 4, 1] rfl (by decide)).1, (va_recv hK hP (ci := 2) (q0 := 0) rfl rfl), (kb_pre hK hG hP (kb_D hD rfl) hS hA [0, 2, 3, 4, 1] rfl (by decide)).2⟩ rfl rfl hl.1 rfl (lv_room (Nat.le_of_ble_eq_true rfl)) dX2_leastThatTells_29 ⟨Nat.zero_le _, Nat.zero_le _⟩) hP (kb_D hD rfl) hS hA [0, 2, 3, 4, 1] rfl [(true, 0), (true, 4), (true, 1), (true, 2), (true, 3)] (w2 := [oX2 a_th (.ref a_left) q_row, oX1 a_p1 (.int v_p1_facts) (.int v_p1_so) (.int v_p1_common) (.int v_p1_cases) (.int v_p1_firstTrueDay), aQ cQ a_left 4 (q4 a_left_r0 a_left_r1 a_left_r2 a_left_r3), aI cI a_left_r2 7 v_left_r2, aI cI a_left_r3 7 w11]) rfl (by decide) (fun H locs hP hS => ?_)
          refine lv_if_eq (tgt := 38) hx hb dX2_leastThatTells_32 (by decide) (fun c13 => ?_) (fun c13 => ?_)
          · replace hm := ite_t c13 hm
            exact J38 w11 _ _ _ hm hP hS (lv_sub hl [0, 1, 2, 3, 4, 5, 6] rfl)
          · replace hm := ite_f c13 hm
            refine lv_iload hx hb dX2_leastThatTells_35 (lv_at hl 6 rfl) ?_
            obtain rfl := Option.some.inj hm
            subst hQ
            exact W.iret hx hb hr (fun t ht hW => ⟨⟨_, (), rfl, rfl, kb_h hP ht⟩, hS.F ht⟩) hS.2.2 dX2_leastThatTells_37
  refine lp3 1024 (0 : Int32) v_left_r3 _ _ _ _ hm (fun w3 H locs ls hm hP hS hl => ?_) hP hS (lv_sub hl [1, 2, 3, 4, 5, 6, 0] rfl)
  refine lv_bipush (v := (-9 : Int32)) hx hb dX2_leastThatTells_44 (by decide) ?_
  obtain rfl := Option.some.inj hm
  subst hQ
  exact W.iret hx hb hr (fun t ht hW => ⟨⟨_, (), rfl, rfl, kb_h hP ht⟩, hS.F ht⟩) hS.2.2 dX2_leastThatTells_46
set_option maxHeartbeats 4000000 in
set_option maxRecDepth 100000 in
theorem c_X2_isToldIn_k2 (l : Launch) (dC : Nat → ClassId) (dI : Nat → Nat → Nat) (cI cJ cZ cQ : ClassId) (t sz : Nat) (a_th : Nat) (a_left : Nat) (a_left_r2 : Nat) (a_p1 : Nat) (a_left_r3 : Nat) (a_left_r0 : Nat) (a_left_r1 : Nat) (q_row : Value) (v_left_r2 : (Nat → Int32)) (v_p1_facts : Int32) (v_p1_so : Int32) (v_p1_common : Int32) (v_p1_cases : Int32) (v_p1_firstTrueDay : Int32) (v_left_r3 : (Nat → Int32)) (p_3 : Int32) (p_4 : Int32) (p_5 : Int32) (o : Int32 × (Nat → Int32)) (hm : m_X2_isToldIn_k2 p_3 p_4 p_5 v_left_r2 v_p1_facts v_left_r3 = some o) : Met l yX2_isToldIn wsX2_isToldIn { frames := 6, cells := 0, slots := 0, locals := 148 } (va_Pc [.ref a_th, .ref a_p1, .int (2 : Int32), .int p_3, .int p_4, .int p_5] (cP (dC, dI) (kT cI cJ cZ cQ) t sz [oX2 a_th (.ref a_left) q_row, aQ cQ a_left 4 (q4 a_left_r0 a_left_r1 a_left_r2 a_left_r3), aI cI a_left_r2 7 v_left_r2, oX1 a_p1 (.int v_p1_facts) (.int v_p1_so) (.int v_p1_common) (.int v_p1_cases) (.int v_p1_firstTrueDay), aI cI a_left_r3 7 v_left_r3])) (cQi (dC, dI) (va_A [oX2 a_th (.ref a_left) q_row, aQ cQ a_left 4 (q4 a_left_r0 a_left_r1 a_left_r2 a_left_r3), aI cI a_left_r2 7 v_left_r2, oX1 a_p1 (.int v_p1_facts) (.int v_p1_so) (.int v_p1_common) (.int v_p1_cases) (.int v_p1_firstTrueDay), aI cI a_left_r3 7 v_left_r3] sz) o.1 [oX2 a_th (.ref a_left) q_row, aQ cQ a_left 4 (q4 a_left_r0 a_left_r1 a_left_r2 a_left_r3), aI cI a_left_r2 7 v_left_r2, oX1 a_p1 (.int v_p1_facts) (.int v_p1_so) (.int v_p1_common) (.int v_p1_cases) (.int v_p1_firstTrueDay), aI cI a_left_r3 7 (o.2)]) 0 0 (va_A [oX2 a_th (.ref a_left) q_row, aQ cQ a_left 4 (q4 a_left_r0 a_left_r1 a_left_r2 a_left_r3), aI cI a_left_r2 7 v_left_r2, oX1 a_p1 (.int v_p1_facts) (.int v_p1_so) (.int v_p1_common) (.int v_p1_cases) (.int v_p1_firstTrueDay), aI cI a_left_r3 7 v_left_r3] sz) := by
  refine Met.ofW (cc := cX2_isToldIn) (maxL := 7) (ret := (some .boolean)) (by decide) rfl ?_
  intro p e s m args below meth c s₁ B hml hv
  obtain ⟨rfl, hsz, hP, hK, hD0, hG⟩ := hv
  have hx := B.exec
  have hb := B.bytes
  have hr := B.returns
  have hts := atoms_spec (ws := wsX2_isToldIn) B.pre
  have hown : s.vm.findClass RX2 = some m.cls := findClass_of_methodNamed B.named
  have hlocks := B.notSynchronized
  subst hsz
  have hD := hD0.self (sz := s.heap.size)
  generalize hAe : va_A [oX2 a_th (.ref a_left) q_row, aQ cQ a_left 4 (q4 a_left_r0 a_left_r1 a_left_r2 a_left_r3), aI cI a_left_r2 7 v_left_r2, oX1 a_p1 (.int v_p1_facts) (.int v_p1_so) (.int v_p1_common) (.int v_p1_cases) (.int v_p1_firstTrueDay), aI cI a_left_r3 7 v_left_r3] s.heap.size = A at hD hG ⊢
  have hA : ∀ q : Nat, s.heap.size ≤ q → A q := fun q h => by rw [← hAe]; exact Or.inr h
  have hS : va_S A s.heap s.heap [] := va_S.rf
  have hl := lv_entry ([.ref a_th, .ref a_p1, .int (2 : Int32), .int p_3, .int p_4, .int p_5]) (n := 7) (Nat.le_of_ble_eq_true rfl)
  rw [lg_entry_eq]
  generalize (lg_sl ([.ref a_th, .ref a_p1, .int (2 : Int32), .int p_3, .int p_4, .int p_5]) ++ List.replicate (7 - (lg_sl ([.ref a_th, .ref a_p1, .int (2 : Int32), .int p_3, .int p_4, .int p_5])).length) Slot.unset).toArray = ls at hl ⊢
  have hl : lv_has ls 7 [(0, .ref a_th), (1, .ref a_p1), (2, .int (2 : Int32)), (3, .int p_3), (4, .int p_4), (5, .int p_5)] := hl
  have iX2 : ∀ w ∈ wsX20, w ∈ wsX2_isToldIn := fun _ h => List.mem_cons_of_mem _ (List.mem_append_left _ (List.mem_append_right _ h))
  have iX1 : ∀ w ∈ wsX10, w ∈ wsX2_isToldIn := fun _ h => List.mem_cons_of_mem _ (List.mem_append_right _ h)
  have f11 := hts (.fieldLink RX2 11 "TrueOnceWeek$Foresight" "left" "[[I") (by decide +kernel)
  refine kb_gen (fun Q hQ => ?_)
  unfold m_X2_isToldIn_k2 at hm
  refine lv_aload_n hx hb dX2_isToldIn_0 rfl (lv_at hl 0 rfl) ?_
  refine va_get (D := (dC, dI)) (ci := 2) (v := .ref a_left) (C := RX2) (T := TX2) (N := 2) hx hb hts iX2 hown hK hP 0 rfl rfl 0 (by decide) f11 (fun _ h9 => h9) rfl dX2_isToldIn_1 ?_
  refine lv_iload_n hx hb dX2_isToldIn_4 rfl (lv_at hl 2 rfl) ?_
  refine kb_aald (y := a_left_r2) hx hb hK hP 1 3 rfl rfl (inB_s (by decide)) rfl dX2_isToldIn_5 ?_
  refine lv_iload hx hb dX2_isToldIn_6 (lv_at hl 4 rfl) ?_
  obtain ⟨r1, ho2, hm⟩ := bd1_s hm
  refine kb_calli (Rv := r1) (va_runS (As := [.ref a_left_r2, .int p_4]) (rest := []) ⟨hx, hb, hml, hown, hts⟩ (c_X2_kindsLeft l dC dI cI cJ cZ cQ t s.heap.size a_left_r2 7 v_left_r2 p_4 (r1) ho2) (va_cwS 2 hts gX2_isToldIn_X2_kindsLeft rfl rfl rfl (by decide +kernel) ⟨(Nat.le_of_ble_eq_true rfl), (Nat.le_of_ble_eq_true rfl)⟩) (kb_pre hK hG hP (kb_D hD rfl) hS hA [2] rfl (by decide)) rfl rfl hl.1 rfl (lv_room (Nat.le_of_ble_eq_true rfl)) dX2_isToldIn_8 ⟨Nat.zero_le _, Nat.zero_le _⟩) hP (kb_D hD rfl) hS hA [2] rfl [(false, 0), (false, 1), (true, 0), (false, 3), (false, 4)] (w2 := [oX2 a_th (.ref a_left) q_row, aQ cQ a_left 4 (q4 a_left_r0 a_left_r1 a_left_r2 a_left_r3), aI cI a_left_r2 7 v_left_r2, oX1 a_p1 (.int v_p1_facts) (.int v_p1_so) (.int v_p1_common) (.int v_p1_cases) (.int v_p1_firstTrueDay), aI cI a_left_r3 7 v_left_r3]) rfl (by decide) (fun H locs hP hS => ?_)
  refine lv_istore (lv' := [(6, .int r1), (0, .ref a_th), (1, .ref a_p1), (2, .int (2 : Int32)), (3, .int p_3), (4, .int p_4), (5, .int p_5)]) hx hb dX2_isToldIn_11 hl (by decide) rfl (fun ls hl => ?_)
  refine lv_iload hx hb dX2_isToldIn_13 (lv_at hl 0 rfl) ?_
  refine lv_iconst (v := (1 : Int32)) hx hb dX2_isToldIn_15 (by decide) ?_
  refine lv_icmp_gt (tgt := 21) hx hb dX2_isToldIn_16 (by decide) (fun c3 => ?_) (fun c3 => ?_)
  · replace hm := ite_t c3 hm
    refine lv_iload hx hb dX2_isToldIn_21 (lv_at hl 0 rfl) ?_
    refine lv_iconst (v := (1 : Int32)) hx hb dX2_isToldIn_23 (by decide) ?_
    refine lv_iload_n hx hb dX2_isToldIn_24 rfl (lv_at hl 4 rfl) ?_
    refine lv_ishl hx hb dX2_isToldIn_25 ?_
    refine lv_icmp_le (tgt := 31) hx hb dX2_isToldIn_26 (by decide) (fun c4 => ?_) (fun c4 => ?_)
    · replace hm := ite_t c4 hm
      refine lv_aload_n hx hb dX2_isToldIn_31 rfl (lv_at hl 1 rfl) ?_
      refine lv_aload_n hx hb dX2_isToldIn_32 rfl (lv_at hl 2 rfl) ?_
      refine lv_iload_n hx hb dX2_isToldIn_33 rfl (lv_at hl 3 rfl) ?_
      refine lv_iload_n hx hb dX2_isToldIn_34 rfl (lv_at hl 4 rfl) ?_
      refine lv_iload hx hb dX2_isToldIn_35 (lv_at hl 5 rfl) ?_
      refine lv_iload hx hb dX2_isToldIn_37 (lv_at hl 6 rfl) ?_
      obtain ⟨r5, w6, ho7, hm⟩ := bd2_s hm
      refine kb_calli (Rv := r5) (va_runV (As := [.ref a_p1, .int (2 : Int32), .int p_3, .int p_4, .int p_5]) (rest := []) ⟨hx, hb, hml, hown, hts⟩ (c_X2_leastThatTells_k2 l dC dI cI cJ cZ cQ t H.size a_th a_p1 a_left a_left_r2 a_left_r3 a_left_r0 a_left_r1 q_row v_p1_facts v_p1_so v_p1_common v_p1_cases v_p1_firstTrueDay v_left_r2 v_left_r3 p_3 p_4 p_5 (r5, w6) ho7) (cwV 5 hts gX2_isToldIn_X2_leastThatTells rfl rfl rfl (by decide +kernel) ⟨(Nat.le_of_ble_eq_true rfl), (Nat.le_of_ble_eq_true rfl)⟩) ⟨(kb_pre hK hG hP (kb_D hD rfl) hS hA [0, 3, 1, 2, 4] rfl (by decide)).1, (va_recv hK hP (ci := 2) (q0 := 0) rfl rfl), (kb_pre hK hG hP (kb_D hD rfl) hS hA [0, 3, 1, 2, 4] rfl (by decide)).2⟩ rfl rfl hl.1 rfl (lv_room (Nat.le_of_ble_eq_true rfl)) dX2_isToldIn_39 ⟨Nat.zero_le _, Nat.zero_le _⟩) hP (kb_D hD rfl) hS hA [0, 3, 1, 2, 4] rfl [(true, 0), (true, 2), (true, 3), (true, 1), (true, 4)] (w2 := [oX2 a_th (.ref a_left) q_row, aQ cQ a_left 4 (q4 a_left_r0 a_left_r1 a_left_r2 a_left_r3), aI cI a_left_r2 7 v_left_r2, oX1 a_p1 (.int v_p1_facts) (.int v_p1_so) (.int v_p1_common) (.int v_p1_cases) (.int v_p1_firstTrueDay), aI cI a_left_r3 7 w6]) rfl (by decide) (fun H locs hP hS => ?_)
      refine lv_bipush (v := (-9 : Int32)) hx hb dX2_isToldIn_42 (by decide) ?_
      refine lv_icmp_eq (tgt := 51) hx hb dX2_isToldIn_44 (by decide) (fun c8 => ?_) (fun c8 => ?_)
      · replace hm := ite_t c8 hm
        refine lv_iconst (v := (0 : Int32)) hx hb dX2_isToldIn_51 (by decide) ?_
        obtain rfl := Option.some.inj hm
        subst hQ
        exact W.zret hx hb hr rfl (fun t ht hW => ⟨⟨_, (), rfl, rfl, kb_h hP ht⟩, hS.F ht⟩) hS.2.2 dX2_isToldIn_52
      · replace hm := ite_f c8 hm
        refine lv_iconst (v := (1 : Int32)) hx hb dX2_isToldIn_47 (by decide) ?_
        refine lv_goto (tgt := 52) hx hb dX2_isToldIn_48 (by decide) ?_
        obtain rfl := Option.some.inj hm
        subst hQ
        exact W.zret hx hb hr rfl (fun t ht hW => ⟨⟨_, (), rfl, rfl, kb_h hP ht⟩, hS.F ht⟩) hS.2.2 dX2_isToldIn_52
    · replace hm := ite_f c4 hm
      refine lv_iconst (v := (0 : Int32)) hx hb dX2_isToldIn_29 (by decide) ?_
      obtain rfl := Option.some.inj hm
      subst hQ
      exact W.zret hx hb hr rfl (fun t ht hW => ⟨⟨_, (), rfl, rfl, kb_h hP ht⟩, hS.F ht⟩) hS.2.2 dX2_isToldIn_30
  · replace hm := ite_f c3 hm
    refine lv_iconst (v := (1 : Int32)) hx hb dX2_isToldIn_19 (by decide) ?_
    obtain rfl := Option.some.inj hm
    subst hQ
    exact W.zret hx hb hr rfl (fun t ht hW => ⟨⟨_, (), rfl, rfl, kb_h hP ht⟩, hS.F ht⟩) hS.2.2 dX2_isToldIn_20
set_option maxHeartbeats 4000000 in
set_option maxRecDepth 100000 in
theorem c_X2_tellsBehind_k1 (l : Launch) (dC : Nat → ClassId) (dI : Nat → Nat → Nat) (cI cJ cZ cQ : ClassId) (t sz : Nat) (a_th : Nat) (a_left : Nat) (a_left_r1 : Nat) (a_left_r2 : Nat) (a_p1 : Nat) (a_left_r3 : Nat) (a_left_r0 : Nat) (q_row : Value) (v_left_r1 : (Nat → Int32)) (v_left_r2 : (Nat → Int32)) (v_p1_facts : Int32) (v_p1_so : Int32) (v_p1_common : Int32) (v_p1_cases : Int32) (v_p1_firstTrueDay : Int32) (v_left_r3 : (Nat → Int32)) (p_2 : Int32) (p_4 : Int32) (p_5 : Int32) (p_6 : Int32) (o : Int32 × (Nat → Int32) × (Nat → Int32)) (hm : m_X2_tellsBehind_k1 p_2 p_4 p_5 p_6 v_left_r1 v_left_r2 v_p1_facts v_left_r3 = some o) : Met l yX2_tellsBehind wsX2_tellsBehind { frames := 7, cells := 0, slots := 0, locals := 174 } (va_Pc [.ref a_th, .ref a_p1, .int p_2, .int (1 : Int32), .int p_4, .int p_5, .int p_6] (cP (dC, dI) (kT cI cJ cZ cQ) t sz [oX2 a_th (.ref a_left) q_row, aQ cQ a_left 4 (q4 a_left_r0 a_left_r1 a_left_r2 a_left_r3), aI cI a_left_r1 7 v_left_r1, aI cI a_left_r2 7 v_left_r2, oX1 a_p1 (.int v_p1_facts) (.int v_p1_so) (.int v_p1_common) (.int v_p1_cases) (.int v_p1_firstTrueDay), aI cI a_left_r3 7 v_left_r3])) (cQi (dC, dI) (va_A [oX2 a_th (.ref a_left) q_row, aQ cQ a_left 4 (q4 a_left_r0 a_left_r1 a_left_r2 a_left_r3), aI cI a_left_r1 7 v_left_r1, aI cI a_left_r2 7 v_left_r2, oX1 a_p1 (.int v_p1_facts) (.int v_p1_so) (.int v_p1_common) (.int v_p1_cases) (.int v_p1_firstTrueDay), aI cI a_left_r3 7 v_left_r3] sz) o.1 [oX2 a_th (.ref a_left) q_row, aQ cQ a_left 4 (q4 a_left_r0 a_left_r1 a_left_r2 a_left_r3), aI cI a_left_r1 7 v_left_r1, aI cI a_left_r2 7 (o.2.1), oX1 a_p1 (.int v_p1_facts) (.int v_p1_so) (.int v_p1_common) (.int v_p1_cases) (.int v_p1_firstTrueDay), aI cI a_left_r3 7 (o.2.2)]) 0 0 (va_A [oX2 a_th (.ref a_left) q_row, aQ cQ a_left 4 (q4 a_left_r0 a_left_r1 a_left_r2 a_left_r3), aI cI a_left_r1 7 v_left_r1, aI cI a_left_r2 7 v_left_r2, oX1 a_p1 (.int v_p1_facts) (.int v_p1_so) (.int v_p1_common) (.int v_p1_cases) (.int v_p1_firstTrueDay), aI cI a_left_r3 7 v_left_r3] sz) := by
  refine Met.ofW (cc := cX2_tellsBehind) (maxL := 8) (ret := (some .boolean)) (by decide) rfl ?_
  intro p e s m args below meth c s₁ B hml hv
  obtain ⟨rfl, hsz, hP, hK, hD0, hG⟩ := hv
  have hx := B.exec
  have hb := B.bytes
  have hr := B.returns
  have hts := atoms_spec (ws := wsX2_tellsBehind) B.pre
  have hown : s.vm.findClass RX2 = some m.cls := findClass_of_methodNamed B.named
  have hlocks := B.notSynchronized
  subst hsz
  have hD := hD0.self (sz := s.heap.size)
  generalize hAe : va_A [oX2 a_th (.ref a_left) q_row, aQ cQ a_left 4 (q4 a_left_r0 a_left_r1 a_left_r2 a_left_r3), aI cI a_left_r1 7 v_left_r1, aI cI a_left_r2 7 v_left_r2, oX1 a_p1 (.int v_p1_facts) (.int v_p1_so) (.int v_p1_common) (.int v_p1_cases) (.int v_p1_firstTrueDay), aI cI a_left_r3 7 v_left_r3] s.heap.size = A at hD hG ⊢
  have hA : ∀ q : Nat, s.heap.size ≤ q → A q := fun q h => by rw [← hAe]; exact Or.inr h
  have hS : va_S A s.heap s.heap [] := va_S.rf
  have hl := lv_entry ([.ref a_th, .ref a_p1, .int p_2, .int (1 : Int32), .int p_4, .int p_5, .int p_6]) (n := 8) (Nat.le_of_ble_eq_true rfl)
  rw [lg_entry_eq]
  generalize (lg_sl ([.ref a_th, .ref a_p1, .int p_2, .int (1 : Int32), .int p_4, .int p_5, .int p_6]) ++ List.replicate (8 - (lg_sl ([.ref a_th, .ref a_p1, .int p_2, .int (1 : Int32), .int p_4, .int p_5, .int p_6])).length) Slot.unset).toArray = ls at hl ⊢
  have hl : lv_has ls 8 [(0, .ref a_th), (1, .ref a_p1), (2, .int p_2), (3, .int (1 : Int32)), (4, .int p_4), (5, .int p_5), (6, .int p_6)] := hl
  have iX2 : ∀ w ∈ wsX20, w ∈ wsX2_tellsBehind := fun _ h => List.mem_cons_of_mem _ (List.mem_append_left _ (List.mem_append_right _ h))
  have iX1 : ∀ w ∈ wsX10, w ∈ wsX2_tellsBehind := fun _ h => List.mem_cons_of_mem _ (List.mem_append_right _ h)
  have f11 := hts (.fieldLink RX2 11 "TrueOnceWeek$Foresight" "left" "[[I") (by decide +kernel)
  refine kb_gen (fun Q hQ => ?_)
  unfold m_X2_tellsBehind_k1 at hm
  refine lv_iload_n hx hb dX2_tellsBehind_0 rfl (lv_at hl 3 rfl) ?_
  refine lv_if_lt (tgt := 9) hx hb dX2_tellsBehind_1 (by decide) (fun c1 => ?_) (fun c1 => ?_)
  · exact absurd c1 (by decide)
  refine lv_iload_n hx hb dX2_tellsBehind_4 rfl (lv_at hl 3 rfl) ?_
  refine lv_iconst (v := (3 : Int32)) hx hb dX2_tellsBehind_5 (by decide) ?_
  refine lv_icmp_lt (tgt := 11) hx hb dX2_tellsBehind_6 (by decide) (fun c2 => ?_) (fun c2 => ?_)
  rotate_left
  · exact absurd (by decide) c2
  refine lv_iconst (v := (0 : Int32)) hx hb dX2_tellsBehind_11 (by decide) ?_
  refine lv_istore (lv' := [(7, .int (0 : Int32)), (0, .ref a_th), (1, .ref a_p1), (2, .int p_2), (3, .int (1 : Int32)), (4, .int p_4), (5, .int p_5), (6, .int p_6)]) hx hb dX2_tellsBehind_12 hl (by decide) rfl (fun ls hl => ?_)
  have lp14 : ∀ (n14 : Nat) (x3 : Int32) (w4 : (Nat → Int32)) (w5 : (Nat → Int32)) (k14 : (Nat → Int32) → (Nat → Int32) → Option (Int32 × (Nat → Int32) × (Nat → Int32))) (H : Heap) (locs : List Loc) (ls : Array Slot), L_X2_tellsBehind_k1_14 v_left_r1 v_p1_facts p_2 p_4 p_5 p_6 n14 x3 w4 w5 k14 = some o → (∀ (w6 : (Nat → Int32)) (w7 : (Nat → Int32)) (H : Heap) (locs : List Loc) (ls : Array Slot), k14 w6 w7 = some o → va_P (dC, dI) vwCl [oX2 a_th (.ref a_left) q_row, aQ cQ a_left 4 (q4 a_left_r0 a_left_r1 a_left_r2 a_left_r3), aI cI a_left_r1 7 v_left_r1, aI cI a_left_r2 7 w6, oX1 a_p1 (.int v_p1_facts) (.int v_p1_so) (.int v_p1_common) (.int v_p1_cases) (.int v_p1_firstTrueDay), aI cI a_left_r3 7 w7] H → va_S A s.heap H locs → lv_has ls 8 [] → W p l e (headSpec wsX2_tellsBehind { frames := 7, cells := 0, slots := 0, locals := 174 }).room s m [.ref a_th, .ref a_p1, .int p_2, .int (1 : Int32), .int p_4, .int p_5, .int p_6].toArray below meth c H locs 0 0 Q (F0 m 74 ls [])) → va_P (dC, dI) vwCl [oX2 a_th (.ref a_left) q_row, aQ cQ a_left 4 (q4 a_left_r0 a_left_r1 a_left_r2 a_left_r3), aI cI a_left_r1 7 v_left_r1, aI cI a_left_r2 7 w4, oX1 a_p1 (.int v_p1_facts) (.int v_p1_so) (.int v_p1_common) (.int v_p1_cases) (.int v_p1_firstTrueDay), aI cI a_left_r3 7 w5] H → va_S A s.heap H locs → lv_has ls 8 [(0, .ref a_th), (1, .ref a_p1), (2, .int p_2), (3, .int (1 : Int32)), (4, .int p_4), (5, .int p_5), (6, .int p_6), (7, .int x3)] → W p l e (headSpec wsX2_tellsBehind { frames := 7, cells := 0, slots := 0, locals := 174 }).room s m [.ref a_th, .ref a_p1, .int p_2, .int (1 : Int32), .int p_4, .int p_5, .int p_6].toArray below meth c H locs 0 0 Q (F0 m 14 ls []) := by
    intro n14
    induction n14 with
    | zero =>
      intro x3 w4 w5 k14 H locs ls hm
      cases (show (none : Option (Int32 × (Nat → Int32) × (Nat → Int32))) = some o from hm)
    | succ n14 ih14 =>
      intro x3 w4 w5 k14 H locs ls hm hk14 hP hS hl
      rw [L_X2_tellsBehind_k1_14.eq_2] at hm
      refine lv_iload hx hb dX2_tellsBehind_14 (lv_at hl 7 rfl) ?_
      refine lv_iconst (v := (3 : Int32)) hx hb dX2_tellsBehind_16 (by decide) ?_
      refine lv_icmp_ge (tgt := 74) hx hb dX2_tellsBehind_17 (by decide) (fun c8 => ?_) (fun c8 => ?_)
      · replace hm := ite_t c8 hm
        exact hk14 w4 w5 _ _ _ hm hP hS (lv_sub hl [] rfl)
      · replace hm := ite_f c8 hm
        refine lv_aload_n hx hb dX2_tellsBehind_20 rfl (lv_at hl 0 rfl) ?_
        refine va_get (D := (dC, dI)) (ci := 2) (v := .ref a_left) (C := RX2) (T := TX2) (N := 2) hx hb hts iX2 hown hK hP 0 rfl rfl 0 (by decide) f11 (fun _ h9 => h9) rfl dX2_tellsBehind_21 ?_
        refine lv_iload_n hx hb dX2_tellsBehind_24 rfl (lv_at hl 3 rfl) ?_
        refine kb_aald (y := a_left_r1) hx hb hK hP 1 3 rfl rfl (inB_s (by decide)) rfl dX2_tellsBehind_25 ?_
        refine lv_aload_n hx hb dX2_tellsBehind_26 rfl (lv_at hl 0 rfl) ?_
        refine va_get (D := (dC, dI)) (ci := 2) (v := .ref a_left) (C := RX2) (T := TX2) (N := 2) hx hb hts iX2 hown hK hP 0 rfl rfl 0 (by decide) f11 (fun _ h9 => h9) rfl dX2_tellsBehind_27 ?_
        refine lv_iload_n hx hb dX2_tellsBehind_30 rfl (lv_at hl 3 rfl) ?_
        refine lv_iconst (v := (1 : Int32)) hx hb dX2_tellsBehind_31 (by decide) ?_
        refine lv_iadd hx hb dX2_tellsBehind_32 ?_
        refine lv_topi (fun z9 ez9 => ?_)
        obtain rfl : z9 = (2 : Int32) := ez9.trans (by decide)
        refine kb_aald (y := a_left_r2) hx hb hK hP 1 3 rfl rfl (inB_s (by decide)) rfl dX2_tellsBehind_33 ?_
        refine lv_iload_n hx hb dX2_tellsBehind_34 rfl (lv_at hl 2 rfl) ?_
        refine lv_iload hx hb dX2_tellsBehind_35 (lv_at hl 7 rfl) ?_
        refine lv_iload hx hb dX2_tellsBehind_37 (lv_at hl 6 rfl) ?_
        refine lv_bipush (v := (7 : Int32)) hx hb dX2_tellsBehind_39 (by decide) ?_
        refine lv_irem hx hb dX2_tellsBehind_41 (by decide) ?_
        obtain ⟨w10, ho11, hm⟩ := bd1_s hm
        refine kb_callv (va_runS (As := [.ref a_left_r1, .ref a_left_r2, .int p_2, .int x3, .int (p_6 - p_6 / (7 : Int32) * (7 : Int32))]) (rest := []) ⟨hx, hb, hml, hown, hts⟩ (c_X8_narrow l dC dI cI cJ cZ cQ t H.size a_left_r1 a_left_r2 7 7 v_left_r1 w4 p_2 x3 (p_6 - p_6 / (7 : Int32) * (7 : Int32)) (w10) ho11) (va_cwS 5 hts gX2_tellsBehind_X8_narrow rfl rfl rfl (by decide +kernel) ⟨(Nat.le_of_ble_eq_true rfl), (Nat.le_of_ble_eq_true rfl)⟩) (kb_pre hK hG hP (kb_D hD rfl) hS hA [2, 3] rfl (by decide)) rfl rfl hl.1 rfl (lv_room (Nat.le_of_ble_eq_true rfl)) dX2_tellsBehind_42 ⟨Nat.zero_le _, Nat.zero_le _⟩) hP (kb_D hD rfl) hS hA [2, 3] rfl [(false, 0), (false, 1), (true, 0), (true, 1), (false, 4), (false, 5)] (w2 := [oX2 a_th (.ref a_left) q_row, aQ cQ a_left 4 (q4 a_left_r0 a_left_r1 a_left_r2 a_left_r3), aI cI a_left_r1 7 v_left_r1, aI cI a_left_r2 7 w10, oX1 a_p1 (.int v_p1_facts) (.int v_p1_so) (.int v_p1_common) (.int v_p1_cases) (.int v_p1_firstTrueDay), aI cI a_left_r3 7 w5]) rfl (by decide) (fun H locs hP hS => ?_)
        refine lv_aload_n hx hb dX2_tellsBehind_45 rfl (lv_at hl 0 rfl) ?_
        refine lv_aload_n hx hb dX2_tellsBehind_46 rfl (lv_at hl 1 rfl) ?_
        refine lv_iload_n hx hb dX2_tellsBehind_47 rfl (lv_at hl 3 rfl) ?_
        refine lv_iconst (v := (1 : Int32)) hx hb dX2_tellsBehind_48 (by decide) ?_
        refine lv_iadd hx hb dX2_tellsBehind_49 ?_
        refine lv_topi (fun z12 ez12 => ?_)
        obtain rfl : z12 = (2 : Int32) := ez12.trans (by decide)
        refine lv_iload hx hb dX2_tellsBehind_50 (lv_at hl 4 rfl) ?_
        refine lv_iconst (v := (1 : Int32)) hx hb dX2_tellsBehind_52 (by decide) ?_
        refine lv_isub hx hb dX2_tellsBehind_53 ?_
        refine lv_iload hx hb dX2_tellsBehind_54 (lv_at hl 5 rfl) ?_
        refine lv_iload hx hb dX2_tellsBehind_56 (lv_at hl 6 rfl) ?_
        refine lv_iconst (v := (1 : Int32)) hx hb dX2_tellsBehind_58 (by decide) ?_
        refine lv_iadd hx hb dX2_tellsBehind_59 ?_
        obtain ⟨r13, w14, ho15, hm⟩ := bd2_s hm
        refine kb_calli (Rv := r13) (va_runV (As := [.ref a_p1, .int (2 : Int32), .int (p_4 - (1 : Int32)), .int p_5, .int (p_6 + (1 : Int32))]) (rest := []) ⟨hx, hb, hml, hown, hts⟩ (c_X2_isToldIn_k2 l dC dI cI cJ cZ cQ t H.size a_th a_left a_left_r2 a_p1 a_left_r3 a_left_r0 a_left_r1 q_row w10 v_p1_facts v_p1_so v_p1_common v_p1_cases v_p1_firstTrueDay w5 (p_4 - (1 : Int32)) p_5 (p_6 + (1 : Int32)) (r13, w14) ho15) (cwV 5 hts gX2_tellsBehind_X2_isToldIn rfl rfl rfl (by decide +kernel) ⟨(Nat.le_of_ble_eq_true rfl), (Nat.le_of_ble_eq_true rfl)⟩) ⟨(kb_pre hK hG hP (kb_D hD rfl) hS hA [0, 1, 3, 4, 5] rfl (by decide)).1, (va_recv hK hP (ci := 2) (q0 := 0) rfl rfl), (kb_pre hK hG hP (kb_D hD rfl) hS hA [0, 1, 3, 4, 5] rfl (by decide)).2⟩ rfl rfl hl.1 rfl (lv_room (Nat.le_of_ble_eq_true rfl)) dX2_tellsBehind_60 ⟨Nat.zero_le _, Nat.zero_le _⟩) hP (kb_D hD rfl) hS hA [0, 1, 3, 4, 5] rfl [(true, 0), (true, 1), (false, 2), (true, 2), (true, 3), (true, 4)] (w2 := [oX2 a_th (.ref a_left) q_row, aQ cQ a_left 4 (q4 a_left_r0 a_left_r1 a_left_r2 a_left_r3), aI cI a_left_r1 7 v_left_r1, aI cI a_left_r2 7 w10, oX1 a_p1 (.int v_p1_facts) (.int v_p1_so) (.int v_p1_common) (.int v_p1_cases) (.int v_p1_firstTrueDay), aI cI a_left_r3 7 w14]) rfl (by decide) (fun H locs hP hS => ?_)
        refine lv_if_ne (tgt := 68) hx hb dX2_tellsBehind_63 (by decide) (fun c16 => ?_) (fun c16 => ?_)
        · replace hm := ite_f c16 hm
          obtain ⟨x17, ex17⟩ : ∃ y : Int32, y = x3 + (1 : Int32) := ⟨_, rfl⟩
          replace hm := nm_t ex17 hm
          refine lv_iinc (v := x17) (lv' := [(7, .int x17), (0, .ref a_th), (1, .ref a_p1), (2, .int p_2), (3, .int (1 : Int32)), (4, .int p_4), (5, .int p_5), (6, .int p_6)]) hx hb dX2_tellsBehind_68 hl (k := 7) rfl (by rw [ex17]; rfl) (by decide) rfl (fun ls hl => ?_)
          refine lv_goto (tgt := 14) hx hb dX2_tellsBehind_71 (by decide) ?_
          exact ih14 x17 w10 w14 k14 _ _ _ hm hk14 hP hS (lv_sub hl [1, 2, 3, 4, 5, 6, 7, 0] rfl)
        · replace hm := ite_t c16 hm
          refine lv_iconst (v := (0 : Int32)) hx hb dX2_tellsBehind_66 (by decide) ?_
          obtain rfl := Option.some.inj hm
          subst hQ
          exact W.zret hx hb hr rfl (fun t ht hW => ⟨⟨_, (), rfl, rfl, kb_h hP ht⟩, hS.F ht⟩) hS.2.2 dX2_tellsBehind_67
  refine lp14 1024 (0 : Int32) v_left_r2 v_left_r3 _ _ _ _ hm (fun w6 w7 H locs ls hm hP hS hl => ?_) hP hS (lv_sub hl [1, 2, 3, 4, 5, 6, 7, 0] rfl)
  refine lv_iconst (v := (1 : Int32)) hx hb dX2_tellsBehind_74 (by decide) ?_
  obtain rfl := Option.some.inj hm
  subst hQ
  exact W.zret hx hb hr rfl (fun t ht hW => ⟨⟨_, (), rfl, rfl, kb_h hP ht⟩, hS.F ht⟩) hS.2.2 dX2_tellsBehind_75
set_option maxHeartbeats 4000000 in
set_option maxRecDepth 100000 in
theorem c_X2_leastThatTells_k1 (l : Launch) (dC : Nat → ClassId) (dI : Nat → Nat → Nat) (cI cJ cZ cQ : ClassId) (t sz : Nat) (a_th : Nat) (a_p1 : Nat) (a_left : Nat) (a_left_r1 : Nat) (a_left_r2 : Nat) (a_left_r3 : Nat) (a_left_r0 : Nat) (q_row : Value) (v_p1_facts : Int32) (v_p1_so : Int32) (v_p1_common : Int32) (v_p1_cases : Int32) (v_p1_firstTrueDay : Int32) (v_left_r1 : (Nat → Int32)) (v_left_r2 : (Nat → Int32)) (v_left_r3 : (Nat → Int32)) (p_3 : Int32) (p_4 : Int32) (p_5 : Int32) (o : Int32 × (Nat → Int32) × (Nat → Int32)) (hm : m_X2_leastThatTells_k1 p_3 p_4 p_5 v_p1_facts v_left_r1 v_left_r2 v_left_r3 = some o) : Met l yX2_leastThatTells wsX2_leastThatTells { frames := 8, cells := 0, slots := 0, locals := 201 } (va_Pc [.ref a_th, .ref a_p1, .int (1 : Int32), .int p_3, .int p_4, .int p_5] (cP (dC, dI) (kT cI cJ cZ cQ) t sz [oX2 a_th (.ref a_left) q_row, oX1 a_p1 (.int v_p1_facts) (.int v_p1_so) (.int v_p1_common) (.int v_p1_cases) (.int v_p1_firstTrueDay), aQ cQ a_left 4 (q4 a_left_r0 a_left_r1 a_left_r2 a_left_r3), aI cI a_left_r1 7 v_left_r1, aI cI a_left_r2 7 v_left_r2, aI cI a_left_r3 7 v_left_r3])) (cQi (dC, dI) (va_A [oX2 a_th (.ref a_left) q_row, oX1 a_p1 (.int v_p1_facts) (.int v_p1_so) (.int v_p1_common) (.int v_p1_cases) (.int v_p1_firstTrueDay), aQ cQ a_left 4 (q4 a_left_r0 a_left_r1 a_left_r2 a_left_r3), aI cI a_left_r1 7 v_left_r1, aI cI a_left_r2 7 v_left_r2, aI cI a_left_r3 7 v_left_r3] sz) o.1 [oX2 a_th (.ref a_left) q_row, oX1 a_p1 (.int v_p1_facts) (.int v_p1_so) (.int v_p1_common) (.int v_p1_cases) (.int v_p1_firstTrueDay), aQ cQ a_left 4 (q4 a_left_r0 a_left_r1 a_left_r2 a_left_r3), aI cI a_left_r1 7 v_left_r1, aI cI a_left_r2 7 (o.2.1), aI cI a_left_r3 7 (o.2.2)]) 0 0 (va_A [oX2 a_th (.ref a_left) q_row, oX1 a_p1 (.int v_p1_facts) (.int v_p1_so) (.int v_p1_common) (.int v_p1_cases) (.int v_p1_firstTrueDay), aQ cQ a_left 4 (q4 a_left_r0 a_left_r1 a_left_r2 a_left_r3), aI cI a_left_r1 7 v_left_r1, aI cI a_left_r2 7 v_left_r2, aI cI a_left_r3 7 v_left_r3] sz) := by
  refine Met.ofW (cc := cX2_leastThatTells) (maxL := 7) (ret := (some .int)) (by decide) rfl ?_
  intro p e s m args below meth c s₁ B hml hv
  obtain ⟨rfl, hsz, hP, hK, hD0, hG⟩ := hv
  have hx := B.exec
  have hb := B.bytes
  have hr := B.returns
  have hts := atoms_spec (ws := wsX2_leastThatTells) B.pre
  have hown : s.vm.findClass RX2 = some m.cls := findClass_of_methodNamed B.named
  have hlocks := B.notSynchronized
  subst hsz
  have hD := hD0.self (sz := s.heap.size)
  generalize hAe : va_A [oX2 a_th (.ref a_left) q_row, oX1 a_p1 (.int v_p1_facts) (.int v_p1_so) (.int v_p1_common) (.int v_p1_cases) (.int v_p1_firstTrueDay), aQ cQ a_left 4 (q4 a_left_r0 a_left_r1 a_left_r2 a_left_r3), aI cI a_left_r1 7 v_left_r1, aI cI a_left_r2 7 v_left_r2, aI cI a_left_r3 7 v_left_r3] s.heap.size = A at hD hG ⊢
  have hA : ∀ q : Nat, s.heap.size ≤ q → A q := fun q h => by rw [← hAe]; exact Or.inr h
  have hS : va_S A s.heap s.heap [] := va_S.rf
  have hl := lv_entry ([.ref a_th, .ref a_p1, .int (1 : Int32), .int p_3, .int p_4, .int p_5]) (n := 7) (Nat.le_of_ble_eq_true rfl)
  rw [lg_entry_eq]
  generalize (lg_sl ([.ref a_th, .ref a_p1, .int (1 : Int32), .int p_3, .int p_4, .int p_5]) ++ List.replicate (7 - (lg_sl ([.ref a_th, .ref a_p1, .int (1 : Int32), .int p_3, .int p_4, .int p_5])).length) Slot.unset).toArray = ls at hl ⊢
  have hl : lv_has ls 7 [(0, .ref a_th), (1, .ref a_p1), (2, .int (1 : Int32)), (3, .int p_3), (4, .int p_4), (5, .int p_5)] := hl
  have iX2 : ∀ w ∈ wsX20, w ∈ wsX2_leastThatTells := fun _ h => List.mem_cons_of_mem _ (List.mem_append_left _ (List.mem_append_right _ h))
  have iX1 : ∀ w ∈ wsX10, w ∈ wsX2_leastThatTells := fun _ h => List.mem_cons_of_mem _ (List.mem_append_right _ h)
  refine kb_gen (fun Q hQ => ?_)
  unfold m_X2_leastThatTells_k1 at hm
  refine lv_iconst (v := (0 : Int32)) hx hb dX2_leastThatTells_0 (by decide) ?_
  refine lv_istore (lv' := [(6, .int (0 : Int32)), (0, .ref a_th), (1, .ref a_p1), (2, .int (1 : Int32)), (3, .int p_3), (4, .int p_4), (5, .int p_5)]) hx hb dX2_leastThatTells_1 hl (by decide) rfl (fun ls hl => ?_)
  have lp3 : ∀ (n3 : Nat) (x1 : Int32) (w2 : (Nat → Int32)) (w3 : (Nat → Int32)) (k3 : (Nat → Int32) → (Nat → Int32) → Option (Int32 × (Nat → Int32) × (Nat → Int32))) (H : Heap) (locs : List Loc) (ls : Array Slot), L_X2_leastThatTells_k1_3 v_p1_facts v_left_r1 p_3 p_4 p_5 n3 x1 w2 w3 k3 = some o → (∀ (w4 : (Nat → Int32)) (w5 : (Nat → Int32)) (H : Heap) (locs : List Loc) (ls : Array Slot), k3 w4 w5 = some o → va_P (dC, dI) vwCl [oX2 a_th (.ref a_left) q_row, oX1 a_p1 (.int v_p1_facts) (.int v_p1_so) (.int v_p1_common) (.int v_p1_cases) (.int v_p1_firstTrueDay), aQ cQ a_left 4 (q4 a_left_r0 a_left_r1 a_left_r2 a_left_r3), aI cI a_left_r1 7 v_left_r1, aI cI a_left_r2 7 w4, aI cI a_left_r3 7 w5] H → va_S A s.heap H locs → lv_has ls 7 [] → W p l e (headSpec wsX2_leastThatTells { frames := 8, cells := 0, slots := 0, locals := 201 }).room s m [.ref a_th, .ref a_p1, .int (1 : Int32), .int p_3, .int p_4, .int p_5].toArray below meth c H locs 0 0 Q (F0 m 44 ls [])) → va_P (dC, dI) vwCl [oX2 a_th (.ref a_left) q_row, oX1 a_p1 (.int v_p1_facts) (.int v_p1_so) (.int v_p1_common) (.int v_p1_cases) (.int v_p1_firstTrueDay), aQ cQ a_left 4 (q4 a_left_r0 a_left_r1 a_left_r2 a_left_r3), aI cI a_left_r1 7 v_left_r1, aI cI a_left_r2 7 w2, aI cI a_left_r3 7 w3] H → va_S A s.heap H locs → lv_has ls 7 [(0, .ref a_th), (1, .ref a_p1), (2, .int (1 : Int32)), (3, .int p_3), (4, .int p_4), (5, .int p_5), (6, .int x1)] → W p l e (headSpec wsX2_leastThatTells { frames := 8, cells := 0, slots := 0, locals := 201 }).room s m [.ref a_th, .ref a_p1, .int (1 : Int32), .int p_3, .int p_4, .int p_5].toArray below meth c H locs 0 0 Q (F0 m 3 ls []) := by
    intro n3
    induction n3 with
    | zero =>
      intro x1 w2 w3 k3 H locs ls hm
      cases (show (none : Option (Int32 × (Nat → Int32) × (Nat → Int32))) = some o from hm)
    | succ n3 ih3 =>
      intro x1 w2 w3 k3 H locs ls hm hk3 hP hS hl
      rw [L_X2_leastThatTells_k1_3.eq_2] at hm
      refine lv_iload hx hb dX2_leastThatTells_3 (lv_at hl 6 rfl) ?_
      refine lv_bipush (v := (19 : Int32)) hx hb dX2_leastThatTells_5 (by decide) ?_
      refine lv_icmp_ge (tgt := 44) hx hb dX2_leastThatTells_7 (by decide) (fun c6 => ?_) (fun c6 => ?_)
      · replace hm := ite_t c6 hm
        exact hk3 w2 w3 _ _ _ hm hP hS (lv_sub hl [] rfl)
      · replace hm := ite_f c6 hm
        refine lv_aload_n hx hb dX2_leastThatTells_10 rfl (lv_at hl 1 rfl) ?_
        refine lv_iload hx hb dX2_leastThatTells_11 (lv_at hl 6 rfl) ?_
        obtain ⟨r7, ho8, hm⟩ := bd1_s hm
        refine kb_calli (Rv := r7) (va_runV (As := [.int x1]) (rest := []) ⟨hx, hb, hml, hown, hts⟩ (c_X1_hasSimple l dC dI cI cJ cZ cQ t H.size a_p1 v_p1_facts v_p1_so v_p1_common v_p1_cases v_p1_firstTrueDay x1 (r7) ho8) (cwV 1 hts gX2_leastThatTells_X1_hasSimple rfl rfl rfl (by decide +kernel) ⟨(Nat.le_of_ble_eq_true rfl), (Nat.le_of_ble_eq_true rfl)⟩) ⟨(kb_pre hK hG hP (kb_D hD rfl) hS hA [1] rfl (by decide)).1, (va_recv hK hP (ci := 1) (q0 := 1) rfl rfl), (kb_pre hK hG hP (kb_D hD rfl) hS hA [1] rfl (by decide)).2⟩ rfl rfl hl.1 rfl (lv_room (Nat.le_of_ble_eq_true rfl)) dX2_leastThatTells_13 ⟨Nat.zero_le _, Nat.zero_le _⟩) hP (kb_D hD rfl) hS hA [1] rfl [(false, 0), (true, 0), (false, 2), (false, 3), (false, 4), (false, 5)] (w2 := [oX2 a_th (.ref a_left) q_row, oX1 a_p1 (.int v_p1_facts) (.int v_p1_so) (.int v_p1_common) (.int v_p1_cases) (.int v_p1_firstTrueDay), aQ cQ a_left 4 (q4 a_left_r0 a_left_r1 a_left_r2 a_left_r3), aI cI a_left_r1 7 v_left_r1, aI cI a_left_r2 7 w2, aI cI a_left_r3 7 w3]) rfl (by decide) (fun H locs hP hS => ?_)
        obtain ⟨k38, ek38, hm⟩ := nm_s hm
        have J38 : ∀ (w9 : (Nat → Int32)) (w10 : (Nat → Int32)) (H : Heap) (locs : List Loc) (ls : Array Slot), k38 w9 w10 = some o → va_P (dC, dI) vwCl [oX2 a_th (.ref a_left) q_row, oX1 a_p1 (.int v_p1_facts) (.int v_p1_so) (.int v_p1_common) (.int v_p1_cases) (.int v_p1_firstTrueDay), aQ cQ a_left 4 (q4 a_left_r0 a_left_r1 a_left_r2 a_left_r3), aI cI a_left_r1 7 v_left_r1, aI cI a_left_r2 7 w9, aI cI a_left_r3 7 w10] H → va_S A s.heap H locs → lv_has ls 7 [(0, .ref a_th), (1, .ref a_p1), (2, .int (1 : Int32)), (3, .int p_3), (4, .int p_4), (5, .int p_5), (6, .int x1)] → W p l e (headSpec wsX2_leastThatTells { frames := 8, cells := 0, slots := 0, locals := 201 }).room s m [.ref a_th, .ref a_p1, .int (1 : Int32), .int p_3, .int p_4, .int p_5].toArray below meth c H locs 0 0 Q (F0 m 38 ls []) := by
          intro w9 w10 H locs ls hm hP hS hl
          rw [ek38] at hm
          obtain ⟨x11, ex11⟩ : ∃ y : Int32, y = x1 + (1 : Int32) := ⟨_, rfl⟩
          replace hm := nm_t ex11 hm
          refine lv_iinc (v := x11) (lv' := [(6, .int x11), (0, .ref a_th), (1, .ref a_p1), (2, .int (1 : Int32)), (3, .int p_3), (4, .int p_4), (5, .int p_5)]) hx hb dX2_leastThatTells_38 hl (k := 6) rfl (by rw [ex11]; rfl) (by decide) rfl (fun ls hl => ?_)
          refine lv_goto (tgt := 3) hx hb dX2_leastThatTells_41 (by decide) ?_
          exact ih3 x11 w9 w10 k3 _ _ _ hm hk3 hP hS (lv_sub hl [1, 2, 3, 4, 5, 6, 0] rfl)
        refine lv_if_eq (tgt := 38) hx hb dX2_leastThatTells_16 (by decide) (fun c12 => ?_) (fun c12 => ?_)
        · replace hm := ite_t c12 hm
          exact J38 w2 w3 _ _ _ hm hP hS (lv_sub hl [0, 1, 2, 3, 4, 5, 6] rfl)
        · replace hm := ite_f c12 hm
          refine lv_aload_n hx hb dX2_leastThatTells_19 rfl (lv_at hl 0 rfl) ?_
          refine lv_aload_n hx hb dX2_leastThatTells_20 rfl (lv_at hl 1 rfl) ?_
          refine lv_iload hx hb dX2_leastThatTells_21 (lv_at hl 6 rfl) ?_
          refine lv_iload_n hx hb dX2_leastThatTells_23 rfl (lv_at hl 2 rfl) ?_
          refine lv_iload_n hx hb dX2_leastThatTells_24 rfl (lv_at hl 3 rfl) ?_
          refine lv_iload hx hb dX2_leastThatTells_25 (lv_at hl 4 rfl) ?_
          refine lv_iload hx hb dX2_leastThatTells_27 (lv_at hl 5 rfl) ?_
          obtain ⟨r13, w14, w15, ho16, hm⟩ := bd3_s hm
          refine kb_calli (Rv := r13) (va_runV (As := [.ref a_p1, .int x1, .int (1 : Int32), .int p_3, .int p_4, .int p_5]) (rest := []) ⟨hx, hb, hml, hown, hts⟩ (c_X2_tellsBehind_k1 l dC dI cI cJ cZ cQ t H.size a_th a_left a_left_r1 a_left_r2 a_p1 a_left_r3 a_left_r0 q_row v_left_r1 w2 v_p1_facts v_p1_so v_p1_common v_p1_cases v_p1_firstTrueDay w3 x1 p_3 p_4 p_5 (r13, w14, w15) ho16) (cwV 6 hts gX2_leastThatTells_X2_tellsBehind rfl rfl rfl (by decide +kernel) ⟨(Nat.le_of_ble_eq_true rfl), (Nat.le_of_ble_eq_true rfl)⟩) ⟨(kb_pre hK hG hP (kb_D hD rfl) hS hA [0, 2, 3, 4, 1, 5] rfl (by decide)).1, (va_recv hK hP (ci := 2) (q0 := 0) rfl rfl), (kb_pre hK hG hP (kb_D hD rfl) hS hA [0, 2, 3, 4, 1, 5] rfl (by decide)).2⟩ rfl rfl hl.1 rfl (lv_room (Nat.le_of_ble_eq_true rfl)) dX2_leastThatTells_29 ⟨Nat.zero_le _, Nat.zero_le _⟩) hP (kb_D hD rfl) hS hA [0, 2, 3, 4, 1, 5] rfl [(true, 0), (true, 4), (true, 1), (true, 2), (true, 3), (true, 5)] (w2 := [oX2 a_th (.ref a_left) q_row, oX1 a_p1 (.int v_p1_facts) (.int v_p1_so) (.int v_p1_common) (.int v_p1_cases) (.int v_p1_firstTrueDay), aQ cQ a_left 4 (q4 a_left_r0 a_left_r1 a_left_r2 a_left_r3), aI cI a_left_r1 7 v_left_r1, aI cI a_left_r2 7 w14, aI cI a_left_r3 7 w15]) rfl (by decide) (fun H locs hP hS => ?_)
          refine lv_if_eq (tgt := 38) hx hb dX2_leastThatTells_32 (by decide) (fun c17 => ?_) (fun c17 => ?_)
          · replace hm := ite_t c17 hm
            exact J38 w14 w15 _ _ _ hm hP hS (lv_sub hl [0, 1, 2, 3, 4, 5, 6] rfl)
          · replace hm := ite_f c17 hm
            refine lv_iload hx hb dX2_leastThatTells_35 (lv_at hl 6 rfl) ?_
            obtain rfl := Option.some.inj hm
            subst hQ
            exact W.iret hx hb hr (fun t ht hW => ⟨⟨_, (), rfl, rfl, kb_h hP ht⟩, hS.F ht⟩) hS.2.2 dX2_leastThatTells_37
  refine lp3 1024 (0 : Int32) v_left_r2 v_left_r3 _ _ _ _ hm (fun w4 w5 H locs ls hm hP hS hl => ?_) hP hS (lv_sub hl [1, 2, 3, 4, 5, 6, 0] rfl)
  refine lv_bipush (v := (-9 : Int32)) hx hb dX2_leastThatTells_44 (by decide) ?_
  obtain rfl := Option.some.inj hm
  subst hQ
  exact W.iret hx hb hr (fun t ht hW => ⟨⟨_, (), rfl, rfl, kb_h hP ht⟩, hS.F ht⟩) hS.2.2 dX2_leastThatTells_46
set_option maxHeartbeats 4000000 in
set_option maxRecDepth 100000 in
theorem c_X2_isToldIn_k1 (l : Launch) (dC : Nat → ClassId) (dI : Nat → Nat → Nat) (cI cJ cZ cQ : ClassId) (t sz : Nat) (a_th : Nat) (a_left : Nat) (a_left_r1 : Nat) (a_p1 : Nat) (a_left_r2 : Nat) (a_left_r3 : Nat) (a_left_r0 : Nat) (q_row : Value) (v_left_r1 : (Nat → Int32)) (v_p1_facts : Int32) (v_p1_so : Int32) (v_p1_common : Int32) (v_p1_cases : Int32) (v_p1_firstTrueDay : Int32) (v_left_r2 : (Nat → Int32)) (v_left_r3 : (Nat → Int32)) (p_3 : Int32) (p_4 : Int32) (p_5 : Int32) (o : Int32 × (Nat → Int32) × (Nat → Int32)) (hm : m_X2_isToldIn_k1 p_3 p_4 p_5 v_left_r1 v_p1_facts v_left_r2 v_left_r3 = some o) : Met l yX2_isToldIn wsX2_isToldIn { frames := 9, cells := 0, slots := 0, locals := 227 } (va_Pc [.ref a_th, .ref a_p1, .int (1 : Int32), .int p_3, .int p_4, .int p_5] (cP (dC, dI) (kT cI cJ cZ cQ) t sz [oX2 a_th (.ref a_left) q_row, aQ cQ a_left 4 (q4 a_left_r0 a_left_r1 a_left_r2 a_left_r3), aI cI a_left_r1 7 v_left_r1, oX1 a_p1 (.int v_p1_facts) (.int v_p1_so) (.int v_p1_common) (.int v_p1_cases) (.int v_p1_firstTrueDay), aI cI a_left_r2 7 v_left_r2, aI cI a_left_r3 7 v_left_r3])) (cQi (dC, dI) (va_A [oX2 a_th (.ref a_left) q_row, aQ cQ a_left 4 (q4 a_left_r0 a_left_r1 a_left_r2 a_left_r3), aI cI a_left_r1 7 v_left_r1, oX1 a_p1 (.int v_p1_facts) (.int v_p1_so) (.int v_p1_common) (.int v_p1_cases) (.int v_p1_firstTrueDay), aI cI a_left_r2 7 v_left_r2, aI cI a_left_r3 7 v_left_r3] sz) o.1 [oX2 a_th (.ref a_left) q_row, aQ cQ a_left 4 (q4 a_left_r0 a_left_r1 a_left_r2 a_left_r3), aI cI a_left_r1 7 v_left_r1, oX1 a_p1 (.int v_p1_facts) (.int v_p1_so) (.int v_p1_common) (.int v_p1_cases) (.int v_p1_firstTrueDay), aI cI a_left_r2 7 (o.2.1), aI cI a_left_r3 7 (o.2.2)]) 0 0 (va_A [oX2 a_th (.ref a_left) q_row, aQ cQ a_left 4 (q4 a_left_r0 a_left_r1 a_left_r2 a_left_r3), aI cI a_left_r1 7 v_left_r1, oX1 a_p1 (.int v_p1_facts) (.int v_p1_so) (.int v_p1_common) (.int v_p1_cases) (.int v_p1_firstTrueDay), aI cI a_left_r2 7 v_left_r2, aI cI a_left_r3 7 v_left_r3] sz) := by
  refine Met.ofW (cc := cX2_isToldIn) (maxL := 7) (ret := (some .boolean)) (by decide) rfl ?_
  intro p e s m args below meth c s₁ B hml hv
  obtain ⟨rfl, hsz, hP, hK, hD0, hG⟩ := hv
  have hx := B.exec
  have hb := B.bytes
  have hr := B.returns
  have hts := atoms_spec (ws := wsX2_isToldIn) B.pre
  have hown : s.vm.findClass RX2 = some m.cls := findClass_of_methodNamed B.named
  have hlocks := B.notSynchronized
  subst hsz
  have hD := hD0.self (sz := s.heap.size)
  generalize hAe : va_A [oX2 a_th (.ref a_left) q_row, aQ cQ a_left 4 (q4 a_left_r0 a_left_r1 a_left_r2 a_left_r3), aI cI a_left_r1 7 v_left_r1, oX1 a_p1 (.int v_p1_facts) (.int v_p1_so) (.int v_p1_common) (.int v_p1_cases) (.int v_p1_firstTrueDay), aI cI a_left_r2 7 v_left_r2, aI cI a_left_r3 7 v_left_r3] s.heap.size = A at hD hG ⊢
  have hA : ∀ q : Nat, s.heap.size ≤ q → A q := fun q h => by rw [← hAe]; exact Or.inr h
  have hS : va_S A s.heap s.heap [] := va_S.rf
  have hl := lv_entry ([.ref a_th, .ref a_p1, .int (1 : Int32), .int p_3, .int p_4, .int p_5]) (n := 7) (Nat.le_of_ble_eq_true rfl)
  rw [lg_entry_eq]
  generalize (lg_sl ([.ref a_th, .ref a_p1, .int (1 : Int32), .int p_3, .int p_4, .int p_5]) ++ List.replicate (7 - (lg_sl ([.ref a_th, .ref a_p1, .int (1 : Int32), .int p_3, .int p_4, .int p_5])).length) Slot.unset).toArray = ls at hl ⊢
  have hl : lv_has ls 7 [(0, .ref a_th), (1, .ref a_p1), (2, .int (1 : Int32)), (3, .int p_3), (4, .int p_4), (5, .int p_5)] := hl
  have iX2 : ∀ w ∈ wsX20, w ∈ wsX2_isToldIn := fun _ h => List.mem_cons_of_mem _ (List.mem_append_left _ (List.mem_append_right _ h))
  have iX1 : ∀ w ∈ wsX10, w ∈ wsX2_isToldIn := fun _ h => List.mem_cons_of_mem _ (List.mem_append_right _ h)
  have f11 := hts (.fieldLink RX2 11 "TrueOnceWeek$Foresight" "left" "[[I") (by decide +kernel)
  refine kb_gen (fun Q hQ => ?_)
  unfold m_X2_isToldIn_k1 at hm
  refine lv_aload_n hx hb dX2_isToldIn_0 rfl (lv_at hl 0 rfl) ?_
  refine va_get (D := (dC, dI)) (ci := 2) (v := .ref a_left) (C := RX2) (T := TX2) (N := 2) hx hb hts iX2 hown hK hP 0 rfl rfl 0 (by decide) f11 (fun _ h9 => h9) rfl dX2_isToldIn_1 ?_
  refine lv_iload_n hx hb dX2_isToldIn_4 rfl (lv_at hl 2 rfl) ?_
  refine kb_aald (y := a_left_r1) hx hb hK hP 1 3 rfl rfl (inB_s (by decide)) rfl dX2_isToldIn_5 ?_
  refine lv_iload hx hb dX2_isToldIn_6 (lv_at hl 4 rfl) ?_
  obtain ⟨r1, ho2, hm⟩ := bd1_s hm
  refine kb_calli (Rv := r1) (va_runS (As := [.ref a_left_r1, .int p_4]) (rest := []) ⟨hx, hb, hml, hown, hts⟩ (c_X2_kindsLeft l dC dI cI cJ cZ cQ t s.heap.size a_left_r1 7 v_left_r1 p_4 (r1) ho2) (va_cwS 2 hts gX2_isToldIn_X2_kindsLeft rfl rfl rfl (by decide +kernel) ⟨(Nat.le_of_ble_eq_true rfl), (Nat.le_of_ble_eq_true rfl)⟩) (kb_pre hK hG hP (kb_D hD rfl) hS hA [2] rfl (by decide)) rfl rfl hl.1 rfl (lv_room (Nat.le_of_ble_eq_true rfl)) dX2_isToldIn_8 ⟨Nat.zero_le _, Nat.zero_le _⟩) hP (kb_D hD rfl) hS hA [2] rfl [(false, 0), (false, 1), (true, 0), (false, 3), (false, 4), (false, 5)] (w2 := [oX2 a_th (.ref a_left) q_row, aQ cQ a_left 4 (q4 a_left_r0 a_left_r1 a_left_r2 a_left_r3), aI cI a_left_r1 7 v_left_r1, oX1 a_p1 (.int v_p1_facts) (.int v_p1_so) (.int v_p1_common) (.int v_p1_cases) (.int v_p1_firstTrueDay), aI cI a_left_r2 7 v_left_r2, aI cI a_left_r3 7 v_left_r3]) rfl (by decide) (fun H locs hP hS => ?_)
  refine lv_istore (lv' := [(6, .int r1), (0, .ref a_th), (1, .ref a_p1), (2, .int (1 : Int32)), (3, .int p_3), (4, .int p_4), (5, .int p_5)]) hx hb dX2_isToldIn_11 hl (by decide) rfl (fun ls hl => ?_)
  refine lv_iload hx hb dX2_isToldIn_13 (lv_at hl 0 rfl) ?_
  refine lv_iconst (v := (1 : Int32)) hx hb dX2_isToldIn_15 (by decide) ?_
  refine lv_icmp_gt (tgt := 21) hx hb dX2_isToldIn_16 (by decide) (fun c3 => ?_) (fun c3 => ?_)
  · replace hm := ite_t c3 hm
    refine lv_iload hx hb dX2_isToldIn_21 (lv_at hl 0 rfl) ?_
    refine lv_iconst (v := (1 : Int32)) hx hb dX2_isToldIn_23 (by decide) ?_
    refine lv_iload_n hx hb dX2_isToldIn_24 rfl (lv_at hl 4 rfl) ?_
    refine lv_ishl hx hb dX2_isToldIn_25 ?_
    refine lv_icmp_le (tgt := 31) hx hb dX2_isToldIn_26 (by decide) (fun c4 => ?_) (fun c4 => ?_)
    · replace hm := ite_t c4 hm
      refine lv_aload_n hx hb dX2_isToldIn_31 rfl (lv_at hl 1 rfl) ?_
      refine lv_aload_n hx hb dX2_isToldIn_32 rfl (lv_at hl 2 rfl) ?_
      refine lv_iload_n hx hb dX2_isToldIn_33 rfl (lv_at hl 3 rfl) ?_
      refine lv_iload_n hx hb dX2_isToldIn_34 rfl (lv_at hl 4 rfl) ?_
      refine lv_iload hx hb dX2_isToldIn_35 (lv_at hl 5 rfl) ?_
      refine lv_iload hx hb dX2_isToldIn_37 (lv_at hl 6 rfl) ?_
      obtain ⟨r5, w6, w7, ho8, hm⟩ := bd3_s hm
      refine kb_calli (Rv := r5) (va_runV (As := [.ref a_p1, .int (1 : Int32), .int p_3, .int p_4, .int p_5]) (rest := []) ⟨hx, hb, hml, hown, hts⟩ (c_X2_leastThatTells_k1 l dC dI cI cJ cZ cQ t H.size a_th a_p1 a_left a_left_r1 a_left_r2 a_left_r3 a_left_r0 q_row v_p1_facts v_p1_so v_p1_common v_p1_cases v_p1_firstTrueDay v_left_r1 v_left_r2 v_left_r3 p_3 p_4 p_5 (r5, w6, w7) ho8) (cwV 5 hts gX2_isToldIn_X2_leastThatTells rfl rfl rfl (by decide +kernel) ⟨(Nat.le_of_ble_eq_true rfl), (Nat.le_of_ble_eq_true rfl)⟩) ⟨(kb_pre hK hG hP (kb_D hD rfl) hS hA [0, 3, 1, 2, 4, 5] rfl (by decide)).1, (va_recv hK hP (ci := 2) (q0 := 0) rfl rfl), (kb_pre hK hG hP (kb_D hD rfl) hS hA [0, 3, 1, 2, 4, 5] rfl (by decide)).2⟩ rfl rfl hl.1 rfl (lv_room (Nat.le_of_ble_eq_true rfl)) dX2_isToldIn_39 ⟨Nat.zero_le _, Nat.zero_le _⟩) hP (kb_D hD rfl) hS hA [0, 3, 1, 2, 4, 5] rfl [(true, 0), (true, 2), (true, 3), (true, 1), (true, 4), (true, 5)] (w2 := [oX2 a_th (.ref a_left) q_row, aQ cQ a_left 4 (q4 a_left_r0 a_left_r1 a_left_r2 a_left_r3), aI cI a_left_r1 7 v_left_r1, oX1 a_p1 (.int v_p1_facts) (.int v_p1_so) (.int v_p1_common) (.int v_p1_cases) (.int v_p1_firstTrueDay), aI cI a_left_r2 7 w6, aI cI a_left_r3 7 w7]) rfl (by decide) (fun H locs hP hS => ?_)
      refine lv_bipush (v := (-9 : Int32)) hx hb dX2_isToldIn_42 (by decide) ?_
      refine lv_icmp_eq (tgt := 51) hx hb dX2_isToldIn_44 (by decide) (fun c9 => ?_) (fun c9 => ?_)
      · replace hm := ite_t c9 hm
        refine lv_iconst (v := (0 : Int32)) hx hb dX2_isToldIn_51 (by decide) ?_
        obtain rfl := Option.some.inj hm
        subst hQ
        exact W.zret hx hb hr rfl (fun t ht hW => ⟨⟨_, (), rfl, rfl, kb_h hP ht⟩, hS.F ht⟩) hS.2.2 dX2_isToldIn_52
      · replace hm := ite_f c9 hm
        refine lv_iconst (v := (1 : Int32)) hx hb dX2_isToldIn_47 (by decide) ?_
        refine lv_goto (tgt := 52) hx hb dX2_isToldIn_48 (by decide) ?_
        obtain rfl := Option.some.inj hm
        subst hQ
        exact W.zret hx hb hr rfl (fun t ht hW => ⟨⟨_, (), rfl, rfl, kb_h hP ht⟩, hS.F ht⟩) hS.2.2 dX2_isToldIn_52
    · replace hm := ite_f c4 hm
      refine lv_iconst (v := (0 : Int32)) hx hb dX2_isToldIn_29 (by decide) ?_
      obtain rfl := Option.some.inj hm
      subst hQ
      exact W.zret hx hb hr rfl (fun t ht hW => ⟨⟨_, (), rfl, rfl, kb_h hP ht⟩, hS.F ht⟩) hS.2.2 dX2_isToldIn_30
  · replace hm := ite_f c3 hm
    refine lv_iconst (v := (1 : Int32)) hx hb dX2_isToldIn_19 (by decide) ?_
    obtain rfl := Option.some.inj hm
    subst hQ
    exact W.zret hx hb hr rfl (fun t ht hW => ⟨⟨_, (), rfl, rfl, kb_h hP ht⟩, hS.F ht⟩) hS.2.2 dX2_isToldIn_20
