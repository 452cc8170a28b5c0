set_option maxHeartbeats 4000000 in
set_option maxRecDepth 100000 in
theorem c_X8_fill (l : Launch) (dC : Nat → ClassId) (dI : Nat → Nat → Nat) (cI cJ cZ cQ : ClassId) (t sz : Nat) (a_p0 : Nat) (n_p0 : Nat) (v_p0 : (Nat → Int32)) (p_1 : Int32) (o : Nat → Int32) (hm : m_X8_fill p_1 n_p0 v_p0 = some o) : Met l yX8_fill wsX8_fill { frames := 0, cells := 0, slots := 0, locals := 0 } (va_Pc [.ref a_p0, .int p_1] (cP (dC, dI) (kT cI cJ cZ cQ) t sz [aI cI a_p0 n_p0 v_p0])) (cQv (dC, dI) (va_A [aI cI a_p0 n_p0 v_p0] sz) [aI cI a_p0 n_p0 o]) 0 0 (va_A [aI cI a_p0 n_p0 v_p0] sz) := by
  refine Met.ofW (cc := cX8_fill) (maxL := 3) (ret := none) (by decide) rfl ?_
  intro p e s m args below meth c s₁ B hml hv
  obtain ⟨rfl, hsz, hP, hK, hD0, hG⟩ := hv
  have hx := B.exec
  have hb := B.bytes
  have hr := B.returns
  have hts := atoms_spec (ws := wsX8_fill) B.pre
  have hown : s.vm.findClass RX8 = some m.cls := findClass_of_methodNamed B.named
  have hlocks := B.notSynchronized
  subst hsz
  have hD := hD0.self (sz := s.heap.size)
  generalize hAe : va_A [aI cI a_p0 n_p0 v_p0] s.heap.size = A at hD hG ⊢
  have hA : ∀ q : Nat, s.heap.size ≤ q → A q := fun q h => by rw [← hAe]; exact Or.inr h
  have hS : va_S A s.heap s.heap [] := va_S.rf
  have hl := lv_entry ([.ref a_p0, .int p_1]) (n := 3) (Nat.le_of_ble_eq_true rfl)
  rw [lg_entry_eq]
  generalize (lg_sl ([.ref a_p0, .int p_1]) ++ List.replicate (3 - (lg_sl ([.ref a_p0, .int p_1])).length) Slot.unset).toArray = ls at hl ⊢
  have hl : lv_has ls 3 [(0, .ref a_p0), (1, .int p_1)] := hl
  refine kb_gen (fun Q hQ => ?_)
  unfold m_X8_fill at hm
  refine lv_iconst (v := (0 : Int32)) hx hb dX8_fill_0 (by decide) ?_
  refine lv_istore_n (lv' := [(2, .int (0 : Int32)), (0, .ref a_p0), (1, .int p_1)]) hx hb dX8_fill_1 rfl hl (by decide) rfl (fun ls hl => ?_)
  have lp2 : ∀ (n2 : Nat) (x1 : Int32) (w2 : (Nat → Int32)) (k2 : (Nat → Int32) → Option (Nat → Int32)) (H : Heap) (locs : List Loc) (ls : Array Slot), L_X8_fill_2 p_1 n_p0 n2 x1 w2 k2 = some o → (∀ (w3 : (Nat → Int32)) (H : Heap) (locs : List Loc) (ls : Array Slot), k2 w3 = some o → va_P (dC, dI) vwCl [aI cI a_p0 n_p0 w3] H → va_S A s.heap H locs → lv_has ls 3 [] → W p l e (headSpec wsX8_fill { frames := 0, cells := 0, slots := 0, locals := 0 }).room s m [.ref a_p0, .int p_1].toArray below meth c H locs 0 0 Q (F0 m 18 ls [])) → va_P (dC, dI) vwCl [aI cI a_p0 n_p0 w2] H → va_S A s.heap H locs → lv_has ls 3 [(0, .ref a_p0), (1, .int p_1), (2, .int x1)] → W p l e (headSpec wsX8_fill { frames := 0, cells := 0, slots := 0, locals := 0 }).room s m [.ref a_p0, .int p_1].toArray below meth c H locs 0 0 Q (F0 m 2 ls []) := by
    intro n2
    induction n2 with
    | zero =>
      intro x1 w2 k2 H locs ls hm
      cases (show (none : Option (Nat → Int32)) = some o from hm)
    | succ n2 ih2 =>
      intro x1 w2 k2 H locs ls hm hk2 hP hS hl
      rw [L_X8_fill_2.eq_2] at hm
      refine lv_iload_n hx hb dX8_fill_2 rfl (lv_at hl 2 rfl) ?_
      refine lv_aload_n hx hb dX8_fill_3 rfl (lv_at hl 0 rfl) ?_
      refine va_alen (v := (Int32.ofNat n_p0)) hx hb hK hP 0 0 rfl rfl rfl dX8_fill_4 ?_
      refine lv_icmp_ge (tgt := 18) hx hb dX8_fill_5 (by decide) (fun c4 => ?_) (fun c4 => ?_)
      · replace hm := ite_t c4 hm
        exact hk2 w2 _ _ _ hm hP hS (lv_sub hl [] rfl)
      · replace hm := ite_f c4 hm
        refine lv_aload_n hx hb dX8_fill_8 rfl (lv_at hl 0 rfl) ?_
        refine lv_iload_n hx hb dX8_fill_9 rfl (lv_at hl 2 rfl) ?_
        refine lv_iload_n hx hb dX8_fill_10 rfl (lv_at hl 1 rfl) ?_
        obtain ⟨h5, hm⟩ := gd_s hm
        refine va_iast hx hb hK hP (kb_D hD rfl) hS 0 0 rfl rfl (inB_s h5) dX8_fill_11 (fun H locs hP _ hS => ?_)
        have hP : va_P (dC, dI) vwCl [aI cI a_p0 n_p0 (upd w2 (Int32.toNatClampNeg x1) p_1)] H := hP
        obtain ⟨x6, ex6⟩ : ∃ y : Int32, y = x1 + (1 : Int32) := ⟨_, rfl⟩
        replace hm := nm_t ex6 hm
        refine lv_iinc (v := x6) (lv' := [(2, .int x6), (0, .ref a_p0), (1, .int p_1)]) hx hb dX8_fill_12 hl (k := 2) rfl (by rw [ex6]; rfl) (by decide) rfl (fun ls hl => ?_)
        refine lv_goto (tgt := 2) hx hb dX8_fill_15 (by decide) ?_
        exact ih2 x6 (upd w2 (Int32.toNatClampNeg x1) p_1) k2 _ _ _ hm hk2 hP hS (lv_sub hl [1, 2, 0] rfl)
  refine lp2 1024 (0 : Int32) v_p0 _ _ _ _ hm (fun w3 H locs ls hm hP hS hl => ?_) hP hS (lv_sub hl [1, 2, 0] rfl)
  cases hm
  subst hQ
  exact W.vret hx hb hr (fun t ht hW => ⟨⟨(), rfl, trivial, kb_h hP ht⟩, hS.F ht⟩) hS.2.2 dX8_fill_18
set_option maxHeartbeats 4000000 in
set_option maxRecDepth 100000 in
theorem c_X4_begin (l : Launch) (dC : Nat → ClassId) (dI : Nat → Nat → Nat) (cI cJ cZ cQ : ClassId) (t sz : Nat) (a_th : Nat) (a_p1 : Nat) (a_known : Nat) (v_date : Int32) (v_trueDay : Int32) (v_wasAsked : Int32) (v_clothState : Int32) (v_cracks : Int32) (v_p1_facts : Int32) (v_p1_so : Int32) (v_p1_common : Int32) (v_p1_cases : Int32) (v_p1_firstTrueDay : Int32) (v_known : (Nat → Int32)) (o : Int32 × Int32 × Int32 × Int32 × Int32 × (Nat → Int32)) (hm : m_X4_begin v_date v_trueDay v_wasAsked v_clothState v_cracks v_p1_cases v_p1_firstTrueDay v_known = some o) : Met l yX4_begin wsX4_begin { frames := 1, cells := 0, slots := 0, locals := 22 } (va_Pc [.ref a_th, .ref a_p1] (cP (dC, dI) (kT cI cJ cZ cQ) t sz [oX4 a_th (.int v_date) (.int v_trueDay) (.int v_wasAsked) (.int v_clothState) (.int v_cracks) (.ref a_known), oX1 a_p1 (.int v_p1_facts) (.int v_p1_so) (.int v_p1_common) (.int v_p1_cases) (.int v_p1_firstTrueDay), aI cI a_known 7 v_known])) (cQv (dC, dI) (va_A [oX4 a_th (.int v_date) (.int v_trueDay) (.int v_wasAsked) (.int v_clothState) (.int v_cracks) (.ref a_known), oX1 a_p1 (.int v_p1_facts) (.int v_p1_so) (.int v_p1_common) (.int v_p1_cases) (.int v_p1_firstTrueDay), aI cI a_known 7 v_known] sz) [oX4 a_th (.int (o.1)) (.int (o.2.1)) (.int (o.2.2.1)) (.int (o.2.2.2.1)) (.int (o.2.2.2.2.1)) (.ref a_known), oX1 a_p1 (.int v_p1_facts) (.int v_p1_so) (.int v_p1_common) (.int v_p1_cases) (.int v_p1_firstTrueDay), aI cI a_known 7 (o.2.2.2.2.2)]) 0 0 (va_A [oX4 a_th (.int v_date) (.int v_trueDay) (.int v_wasAsked) (.int v_clothState) (.int v_cracks) (.ref a_known), oX1 a_p1 (.int v_p1_facts) (.int v_p1_so) (.int v_p1_common) (.int v_p1_cases) (.int v_p1_firstTrueDay), aI cI a_known 7 v_known] sz) := by
  refine Met.ofW (cc := cX4_begin) (maxL := 2) (ret := none) (by decide) rfl ?_
  intro p e s m args below meth c s₁ B hml hv
  obtain ⟨rfl, hsz, hP, hK, hD0, hG⟩ := hv
  have hx := B.exec
  have hb := B.bytes
  have hr := B.returns
  have hts := atoms_spec (ws := wsX4_begin) B.pre
  have hown : s.vm.findClass RX4 = some m.cls := findClass_of_methodNamed B.named
  have hlocks := B.notSynchronized
  subst hsz
  have hD := hD0.self (sz := s.heap.size)
  generalize hAe : va_A [oX4 a_th (.int v_date) (.int v_trueDay) (.int v_wasAsked) (.int v_clothState) (.int v_cracks) (.ref a_known), oX1 a_p1 (.int v_p1_facts) (.int v_p1_so) (.int v_p1_common) (.int v_p1_cases) (.int v_p1_firstTrueDay), aI cI a_known 7 v_known] s.heap.size = A at hD hG ⊢
  have hA : ∀ q : Nat, s.heap.size ≤ q → A q := fun q h => by rw [← hAe]; exact Or.inr h
  have hS : va_S A s.heap s.heap [] := va_S.rf
  have hl := lv_entry ([.ref a_th, .ref a_p1]) (n := 2) (Nat.le_of_ble_eq_true rfl)
  rw [lg_entry_eq]
  generalize (lg_sl ([.ref a_th, .ref a_p1]) ++ List.replicate (2 - (lg_sl ([.ref a_th, .ref a_p1])).length) Slot.unset).toArray = ls at hl ⊢
  have hl : lv_has ls 2 [(0, .ref a_th), (1, .ref a_p1)] := hl
  have iX4 : ∀ w ∈ wsX40, w ∈ wsX4_begin := fun _ h => List.mem_cons_of_mem _ (List.mem_append_left _ (List.mem_append_right _ h))
  have iX1 : ∀ w ∈ wsX10, w ∈ wsX4_begin := fun _ h => List.mem_cons_of_mem _ (List.mem_append_right _ h)
  have f15 := hts (.fieldLink RX4 15 "TrueOnceWeek$Moment" "date" "I") (by decide +kernel)
  have f19 := va_Nw.use (A := [.ref a_th, .ref a_p1].toArray) (w := .fieldLinkNest RX4 19 "TrueOnceWeek$Castle" "firstTrueDay" "I" "TrueOnceWeek") rfl (hG.1 (RX4, 19, "TrueOnceWeek$Castle", "firstTrueDay", "I") (by decide +kernel))
  have f24 := hts (.fieldLink RX4 24 "TrueOnceWeek$Moment" "trueDay" "I") (by decide +kernel)
  have f27 := hts (.fieldLink RX4 27 "TrueOnceWeek$Moment" "wasAsked" "Z") (by decide +kernel)
  have f31 := hts (.fieldLink RX4 31 "TrueOnceWeek$Moment" "clothState" "I") (by decide +kernel)
  have f34 := hts (.fieldLink RX4 34 "TrueOnceWeek$Moment" "cracks" "I") (by decide +kernel)
  have f9 := hts (.fieldLink RX4 9 "TrueOnceWeek$Moment" "known" "[I") (by decide +kernel)
  have f37 := va_Nw.use (A := [.ref a_th, .ref a_p1].toArray) (w := .fieldLinkNest RX4 37 "TrueOnceWeek$Castle" "cases" "I" "TrueOnceWeek") rfl (hG.1 (RX4, 37, "TrueOnceWeek$Castle", "cases", "I") (by decide +kernel))
  refine kb_gen (fun Q hQ => ?_)
  unfold m_X4_begin at hm
  refine lv_aload_n hx hb dX4_begin_0 rfl (lv_at hl 0 rfl) ?_
  refine lv_iconst (v := (0 : Int32)) hx hb dX4_begin_1 (by decide) ?_
  refine va_put (D := (dC, dI)) (ci := 4) (v := .int (0 : Int32)) (ty := .int) (C := RX4) (T := TX4) (N := 6) hx hb hts iX4 tyX4 tyX4_ok nmX4 hown hK hP (kb_D hD rfl) hS 0 rfl rfl 0 (by decide) f15 (fun _ h9 => h9) rfl (by decide +kernel) rfl rfl (Nat.le_of_ble_eq_true rfl) dX4_begin_2 (fun H locs hP _ hS => ?_)
  have hP : va_P (dC, dI) vwCl [oX4 a_th (.int (0 : Int32)) (.int v_trueDay) (.int v_wasAsked) (.int v_clothState) (.int v_cracks) (.ref a_known), oX1 a_p1 (.int v_p1_facts) (.int v_p1_so) (.int v_p1_common) (.int v_p1_cases) (.int v_p1_firstTrueDay), aI cI a_known 7 v_known] H := hP
  refine lv_aload_n hx hb dX4_begin_5 rfl (lv_at hl 0 rfl) ?_
  refine lv_aload_n hx hb dX4_begin_6 rfl (lv_at hl 1 rfl) ?_
  refine va_getN (D := (dC, dI)) (ci := 1) (v := .int v_p1_firstTrueDay) (C := RX1) (T := TX1) (N := 5) hx hb hts iX1 hown hK hP 1 rfl rfl 4 (by decide) f19 (fun _ h9 => h9) rfl dX4_begin_7 ?_
  refine va_put (D := (dC, dI)) (ci := 4) (v := .int v_p1_firstTrueDay) (ty := .int) (C := RX4) (T := TX4) (N := 6) hx hb hts iX4 tyX4 tyX4_ok nmX4 hown hK hP (kb_D hD rfl) hS 0 rfl rfl 1 (by decide) f24 (fun _ h9 => h9) rfl (by decide +kernel) rfl rfl (Nat.le_of_ble_eq_true rfl) dX4_begin_10 (fun H locs hP _ hS => ?_)
  have hP : va_P (dC, dI) vwCl [oX4 a_th (.int (0 : Int32)) (.int v_p1_firstTrueDay) (.int v_wasAsked) (.int v_clothState) (.int v_cracks) (.ref a_known), oX1 a_p1 (.int v_p1_facts) (.int v_p1_so) (.int v_p1_common) (.int v_p1_cases) (.int v_p1_firstTrueDay), aI cI a_known 7 v_known] H := hP
  refine lv_aload_n hx hb dX4_begin_13 rfl (lv_at hl 0 rfl) ?_
  refine lv_iconst (v := (0 : Int32)) hx hb dX4_begin_14 (by decide) ?_
  refine va_put (D := (dC, dI)) (ci := 4) (v := .int (0 : Int32)) (ty := .boolean) (C := RX4) (T := TX4) (N := 6) hx hb hts iX4 tyX4 tyX4_ok nmX4 hown hK hP (kb_D hD rfl) hS 0 rfl rfl 2 (by decide) f27 (fun _ h9 => h9) rfl (by decide +kernel) rfl rfl (Nat.le_of_ble_eq_true rfl) dX4_begin_15 (fun H locs hP _ hS => ?_)
  have hP : va_P (dC, dI) vwCl [oX4 a_th (.int (0 : Int32)) (.int v_p1_firstTrueDay) (.int (0 : Int32)) (.int v_clothState) (.int v_cracks) (.ref a_known), oX1 a_p1 (.int v_p1_facts) (.int v_p1_so) (.int v_p1_common) (.int v_p1_cases) (.int v_p1_firstTrueDay), aI cI a_known 7 v_known] H := hP
  refine lv_aload_n hx hb dX4_begin_18 rfl (lv_at hl 0 rfl) ?_
  refine lv_iconst (v := (0 : Int32)) hx hb dX4_begin_19 (by decide) ?_
  refine va_put (D := (dC, dI)) (ci := 4) (v := .int (0 : Int32)) (ty := .int) (C := RX4) (T := TX4) (N := 6) hx hb hts iX4 tyX4 tyX4_ok nmX4 hown hK hP (kb_D hD rfl) hS 0 rfl rfl 3 (by decide) f31 (fun _ h9 => h9) rfl (by decide +kernel) rfl rfl (Nat.le_of_ble_eq_true rfl) dX4_begin_20 (fun H locs hP _ hS => ?_)
  have hP : va_P (dC, dI) vwCl [oX4 a_th (.int (0 : Int32)) (.int v_p1_firstTrueDay) (.int (0 : Int32)) (.int (0 : Int32)) (.int v_cracks) (.ref a_known), oX1 a_p1 (.int v_p1_facts) (.int v_p1_so) (.int v_p1_common) (.int v_p1_cases) (.int v_p1_firstTrueDay), aI cI a_known 7 v_known] H := hP
  refine lv_aload_n hx hb dX4_begin_23 rfl (lv_at hl 0 rfl) ?_
  refine lv_iconst (v := (0 : Int32)) hx hb dX4_begin_24 (by decide) ?_
  refine va_put (D := (dC, dI)) (ci := 4) (v := .int (0 : Int32)) (ty := .int) (C := RX4) (T := TX4) (N := 6) hx hb hts iX4 tyX4 tyX4_ok nmX4 hown hK hP (kb_D hD rfl) hS 0 rfl rfl 4 (by decide) f34 (fun _ h9 => h9) rfl (by decide +kernel) rfl rfl (Nat.le_of_ble_eq_true rfl) dX4_begin_25 (fun H locs hP _ hS => ?_)
  have hP : va_P (dC, dI) vwCl [oX4 a_th (.int (0 : Int32)) (.int v_p1_firstTrueDay) (.int (0 : Int32)) (.int (0 : Int32)) (.int (0 : Int32)) (.ref a_known), oX1 a_p1 (.int v_p1_facts) (.int v_p1_so) (.int v_p1_common) (.int v_p1_cases) (.int v_p1_firstTrueDay), aI cI a_known 7 v_known] H := hP
  refine lv_aload_n hx hb dX4_begin_28 rfl (lv_at hl 0 rfl) ?_
  refine va_get (D := (dC, dI)) (ci := 4) (v := .ref a_known) (C := RX4) (T := TX4) (N := 6) hx hb hts iX4 hown hK hP 0 rfl rfl 5 (by decide) f9 (fun _ h9 => h9) rfl dX4_begin_29 ?_
  refine lv_aload_n hx hb dX4_begin_32 rfl (lv_at hl 1 rfl) ?_
  refine va_getN (D := (dC, dI)) (ci := 1) (v := .int v_p1_cases) (C := RX1) (T := TX1) (N := 5) hx hb hts iX1 hown hK hP 1 rfl rfl 3 (by decide) f37 (fun _ h9 => h9) rfl dX4_begin_33 ?_
  obtain ⟨w1, ho2, hm⟩ := bd1_s hm
  refine kb_callv (va_runS (As := [.ref a_known, .int v_p1_cases]) (rest := []) ⟨hx, hb, hml, hown, hts⟩ (c_X8_fill l dC dI cI cJ cZ cQ t H.size a_known 7 v_known v_p1_cases (w1) ho2) (va_cwS 2 hts gX4_begin_X8_fill rfl rfl rfl (by decide +kernel) ⟨(Nat.le_of_ble_eq_true rfl), (Nat.le_of_ble_eq_true rfl)⟩) (kb_pre hK hG hP (kb_D hD rfl) hS hA [2] rfl (by decide)) rfl rfl hl.1 rfl (lv_room (Nat.le_of_ble_eq_true rfl)) dX4_begin_36 ⟨Nat.zero_le _, Nat.zero_le _⟩) hP (kb_D hD rfl) hS hA [2] rfl [(false, 0), (false, 1), (true, 0)] (w2 := [oX4 a_th (.int (0 : Int32)) (.int v_p1_firstTrueDay) (.int (0 : Int32)) (.int (0 : Int32)) (.int (0 : Int32)) (.ref a_known), oX1 a_p1 (.int v_p1_facts) (.int v_p1_so) (.int v_p1_common) (.int v_p1_cases) (.int v_p1_firstTrueDay), aI cI a_known 7 w1]) rfl (by decide) (fun H locs hP hS => ?_)
  cases hm
  subst hQ
  exact W.vret hx hb hr (fun t ht hW => ⟨⟨(), rfl, trivial, kb_h hP ht⟩, hS.F ht⟩) hS.2.2 dX4_begin_39
set_option maxHeartbeats 4000000 in
set_option maxRecDepth 100000 in
theorem c_X0_forget (l : Launch) (dC : Nat → ClassId) (dI : Nat → Nat → Nat) (cI cJ cZ cQ : ClassId) (t sz : Nat) (a_th : Nat) (q_moments : Value) (q_seeds : Value) (v_next : Int32) (v_count : Int32) (o : Int32) (hm : m_X0_forget v_count = some o) : Met l yX0_forget wsX0_forget { frames := 0, cells := 0, slots := 0, locals := 0 } (va_Pc [.ref a_th] (cP (dC, dI) (kT cI cJ cZ cQ) t sz [oX0 a_th q_moments q_seeds (.int v_next) (.int v_count)])) (cQv (dC, dI) (va_A [oX0 a_th q_moments q_seeds (.int v_next) (.int v_count)] sz) [oX0 a_th q_moments q_seeds (.int v_next) (.int o)]) 0 0 (va_A [oX0 a_th q_moments q_seeds (.int v_next) (.int v_count)] sz) := by
  refine Met.ofW (cc := cX0_forget) (maxL := 1) (ret := none) (by decide) rfl ?_
  intro p e s m args below meth c s₁ B hml hv
  obtain ⟨rfl, hsz, hP, hK, hD0, hG⟩ := hv
  have hx := B.exec
  have hb := B.bytes
  have hr := B.returns
  have hts := atoms_spec (ws := wsX0_forget) B.pre
  have hown : s.vm.findClass RX0 = some m.cls := findClass_of_methodNamed B.named
  have hlocks := B.notSynchronized
  subst hsz
  have hD := hD0.self (sz := s.heap.size)
  generalize hAe : va_A [oX0 a_th q_moments q_seeds (.int v_next) (.int v_count)] s.heap.size = A at hD hG ⊢
  have hA : ∀ q : Nat, s.heap.size ≤ q → A q := fun q h => by rw [← hAe]; exact Or.inr h
  have hS : va_S A s.heap s.heap [] := va_S.rf
  have hl := lv_entry ([.ref a_th]) (n := 1) (Nat.le_of_ble_eq_true rfl)
  rw [lg_entry_eq]
  generalize (lg_sl ([.ref a_th]) ++ List.replicate (1 - (lg_sl ([.ref a_th])).length) Slot.unset).toArray = ls at hl ⊢
  have hl : lv_has ls 1 [(0, .ref a_th)] := hl
  have iX0 : ∀ w ∈ wsX00, w ∈ wsX0_forget := fun _ h => List.mem_cons_of_mem _ (List.mem_append_right _ h)
  have f29 := hts (.fieldLink RX0 29 "TrueOnceWeek$Acts" "count" "I") (by decide +kernel)
  refine kb_gen (fun Q hQ => ?_)
  unfold m_X0_forget at hm
  refine lv_aload_n hx hb dX0_forget_0 rfl (lv_at hl 0 rfl) ?_
  refine lv_iconst (v := (0 : Int32)) hx hb dX0_forget_1 (by decide) ?_
  refine va_put (D := (dC, dI)) (ci := 0) (v := .int (0 : Int32)) (ty := .int) (C := RX0) (T := TX0) (N := 4) hx hb hts iX0 tyX0 tyX0_ok nmX0 hown hK hP (kb_D hD rfl) hS 0 rfl rfl 3 (by decide) f29 (fun _ h9 => h9) rfl (by decide +kernel) rfl rfl (Nat.le_of_ble_eq_true rfl) dX0_forget_2 (fun H locs hP _ hS => ?_)
  have hP : va_P (dC, dI) vwCl [oX0 a_th q_moments q_seeds (.int v_next) (.int (0 : Int32))] H := hP
  cases hm
  subst hQ
  exact W.vret hx hb hr (fun t ht hW => ⟨⟨(), rfl, trivial, kb_h hP ht⟩, hS.F ht⟩) hS.2.2 dX0_forget_5
set_option maxHeartbeats 4000000 in
set_option maxRecDepth 100000 in
theorem c_X9_castle (l : Launch) (dC : Nat → ClassId) (dI : Nat → Nat → Nat) (cI cJ cZ cQ : ClassId) (t sz : Nat) (a_th : Nat) (a_theText : Nat) (a_theText_bytes : Nat) (a_theCastle : Nat) (a_now : Nat) (a_now_known : Nat) (a_theActs : Nat) (a_isKept : Nat) (n_theText_bytes : Nat) (q_theQuestion : Value) (q_theTold : Value) (q_foresight : Value) (q_keptMoments : Value) (q_marchWorlds : Value) (q_theActs_moments : Value) (q_theActs_seeds : Value) (v_theSeed : Int64) (v_theText_length : Int32) (v_theText_bytes : (Nat → Int32)) (v_theCastle_facts : Int32) (v_theCastle_so : Int32) (v_theCastle_common : Int32) (v_theCastle_cases : Int32) (v_theCastle_firstTrueDay : Int32) (v_now_date : Int32) (v_now_trueDay : Int32) (v_now_wasAsked : Int32) (v_now_clothState : Int32) (v_now_cracks : Int32) (v_now_known : (Nat → Int32)) (v_theActs_next : Int32) (v_theActs_count : Int32) (v_isKept : (Nat → Int32)) (o : Int32 × Int32 × Int32 × Int32 × Int32 × Int32 × Int32 × Int32 × Int32 × Int32 × Int32 × (Nat → Int32) × Int32 × (Nat → Int32)) (hm : m_X9_castle n_theText_bytes v_theText_length v_theText_bytes v_theCastle_facts v_theCastle_so v_theCastle_common v_theCastle_cases v_theCastle_firstTrueDay v_now_date v_now_trueDay v_now_wasAsked v_now_clothState v_now_cracks v_now_known v_theActs_count v_isKept = some o) : Met l yX9_castle wsX9_castle { frames := 2, cells := 0, slots := 0, locals := 45 } (va_Pc [.ref a_th] (cP (dC, dI) (kT cI cJ cZ cQ) t sz [oX9 a_th (.ref a_theText) q_theQuestion (.ref a_theCastle) (.ref a_now) (.ref a_theActs) q_theTold q_foresight q_keptMoments (.ref a_isKept) q_marchWorlds (.long v_theSeed), oX3 a_theText (.ref a_theText_bytes) (.int v_theText_length), aI cI a_theText_bytes n_theText_bytes v_theText_bytes, oX1 a_theCastle (.int v_theCastle_facts) (.int v_theCastle_so) (.int v_theCastle_common) (.int v_theCastle_cases) (.int v_theCastle_firstTrueDay), oX4 a_now (.int v_now_date) (.int v_now_trueDay) (.int v_now_wasAsked) (.int v_now_clothState) (.int v_now_cracks) (.ref a_now_known), aI cI a_now_known 7 v_now_known, oX0 a_theActs q_theActs_moments q_theActs_seeds (.int v_theActs_next) (.int v_theActs_count), aI cZ a_isKept 2 v_isKept])) (cQi (dC, dI) (va_A [oX9 a_th (.ref a_theText) q_theQuestion (.ref a_theCastle) (.ref a_now) (.ref a_theActs) q_theTold q_foresight q_keptMoments (.ref a_isKept) q_marchWorlds (.long v_theSeed), oX3 a_theText (.ref a_theText_bytes) (.int v_theText_length), aI cI a_theText_bytes n_theText_bytes v_theText_bytes, oX1 a_theCastle (.int v_theCastle_facts) (.int v_theCastle_so) (.int v_theCastle_common) (.int v_theCastle_cases) (.int v_theCastle_firstTrueDay), oX4 a_now (.int v_now_date) (.int v_now_trueDay) (.int v_now_wasAsked) (.int v_now_clothState) (.int v_now_cracks) (.ref a_now_known), aI cI a_now_known 7 v_now_known, oX0 a_theActs q_theActs_moments q_theActs_seeds (.int v_theActs_next) (.int v_theActs_count), aI cZ a_isKept 2 v_isKept] sz) o.1 [oX9 a_th (.ref a_theText) q_theQuestion (.ref a_theCastle) (.ref a_now) (.ref a_theActs) q_theTold q_foresight q_keptMoments (.ref a_isKept) q_marchWorlds (.long v_theSeed), oX3 a_theText (.ref a_theText_bytes) (.int v_theText_length), aI cI a_theText_bytes n_theText_bytes v_theText_bytes, oX1 a_theCastle (.int (o.2.1)) (.int (o.2.2.1)) (.int (o.2.2.2.1)) (.int (o.2.2.2.2.1)) (.int (o.2.2.2.2.2.1)), oX4 a_now (.int (o.2.2.2.2.2.2.1)) (.int (o.2.2.2.2.2.2.2.1)) (.int (o.2.2.2.2.2.2.2.2.1)) (.int (o.2.2.2.2.2.2.2.2.2.1)) (.int (o.2.2.2.2.2.2.2.2.2.2.1)) (.ref a_now_known), aI cI a_now_known 7 (o.2.2.2.2.2.2.2.2.2.2.2.1), oX0 a_theActs q_theActs_moments q_theActs_seeds (.int v_theActs_next) (.int (o.2.2.2.2.2.2.2.2.2.2.2.2.1)), aI cZ a_isKept 2 (o.2.2.2.2.2.2.2.2.2.2.2.2.2)]) 0 0 (va_A [oX9 a_th (.ref a_theText) q_theQuestion (.ref a_theCastle) (.ref a_now) (.ref a_theActs) q_theTold q_foresight q_keptMoments (.ref a_isKept) q_marchWorlds (.long v_theSeed), oX3 a_theText (.ref a_theText_bytes) (.int v_theText_length), aI cI a_theText_bytes n_theText_bytes v_theText_bytes, oX1 a_theCastle (.int v_theCastle_facts) (.int v_theCastle_so) (.int v_theCastle_common) (.int v_theCastle_cases) (.int v_theCastle_firstTrueDay), oX4 a_now (.int v_now_date) (.int v_now_trueDay) (.int v_now_wasAsked) (.int v_now_clothState) (.int v_now_cracks) (.ref a_now_known), aI cI a_now_known 7 v_now_known, oX0 a_theActs q_theActs_moments q_theActs_seeds (.int v_theActs_next) (.int v_theActs_count), aI cZ a_isKept 2 v_isKept] sz) := by
  refine Met.ofW (cc := cX9_castle) (maxL := 2) (ret := (some .int)) (by decide) rfl ?_
  intro p e s m args below meth c s₁ B hml hv
  obtain ⟨rfl, hsz, hP, hK, hD0, hG⟩ := hv
  have hx := B.exec
  have hb := B.bytes
  have hr := B.returns
  have hts := atoms_spec (ws := wsX9_castle) B.pre
  have hown : s.vm.findClass RX9 = some m.cls := findClass_of_methodNamed B.named
  have hlocks := B.notSynchronized
  subst hsz
  have hD := hD0.self (sz := s.heap.size)
  generalize hAe : va_A [oX9 a_th (.ref a_theText) q_theQuestion (.ref a_theCastle) (.ref a_now) (.ref a_theActs) q_theTold q_foresight q_keptMoments (.ref a_isKept) q_marchWorlds (.long v_theSeed), oX3 a_theText (.ref a_theText_bytes) (.int v_theText_length), aI cI a_theText_bytes n_theText_bytes v_theText_bytes, oX1 a_theCastle (.int v_theCastle_facts) (.int v_theCastle_so) (.int v_theCastle_common) (.int v_theCastle_cases) (.int v_theCastle_firstTrueDay), oX4 a_now (.int v_now_date) (.int v_now_trueDay) (.int v_now_wasAsked) (.int v_now_clothState) (.int v_now_cracks) (.ref a_now_known), aI cI a_now_known 7 v_now_known, oX0 a_theActs q_theActs_moments q_theActs_seeds (.int v_theActs_next) (.int v_theActs_count), aI cZ a_isKept 2 v_isKept] s.heap.size = A at hD hG ⊢
  have hA : ∀ q : Nat, s.heap.size ≤ q → A q := fun q h => by rw [← hAe]; exact Or.inr h
  have hS : va_S A s.heap s.heap [] := va_S.rf
  have hl := lv_entry ([.ref a_th]) (n := 2) (Nat.le_of_ble_eq_true rfl)
  rw [lg_entry_eq]
  generalize (lg_sl ([.ref a_th]) ++ List.replicate (2 - (lg_sl ([.ref a_th])).length) Slot.unset).toArray = ls at hl ⊢
  have hl : lv_has ls 2 [(0, .ref a_th)] := hl
  have iX9 : ∀ w ∈ wsX90, w ∈ wsX9_castle := fun _ h => List.mem_cons_of_mem _ (List.mem_append_left _ (List.mem_append_left _ (List.mem_append_left _ (List.mem_append_left _ (List.mem_append_right _ h)))))
  have iX1 : ∀ w ∈ wsX10, w ∈ wsX9_castle := fun _ h => List.mem_cons_of_mem _ (List.mem_append_left _ (List.mem_append_left _ (List.mem_append_left _ (List.mem_append_right _ h))))
  have iX3 : ∀ w ∈ wsX30, w ∈ wsX9_castle := fun _ h => List.mem_cons_of_mem _ (List.mem_append_left _ (List.mem_append_left _ (List.mem_append_right _ h)))
  have iX4 : ∀ w ∈ wsX40, w ∈ wsX9_castle := fun _ h => List.mem_cons_of_mem _ (List.mem_append_left _ (List.mem_append_right _ h))
  have iX0 : ∀ w ∈ wsX00, w ∈ wsX9_castle := fun _ h => List.mem_cons_of_mem _ (List.mem_append_right _ h)
  have f14 := hts (.fieldLink RX9 14 "TrueOnceWeek" "theText" "LTrueOnceWeek$Letters;") (by decide +kernel)
  have f28 := hts (.fieldLink RX9 28 "TrueOnceWeek" "theCastle" "LTrueOnceWeek$Castle;") (by decide +kernel)
  have f35 := hts (.fieldLink RX9 35 "TrueOnceWeek" "now" "LTrueOnceWeek$Moment;") (by decide +kernel)
  have f42 := hts (.fieldLink RX9 42 "TrueOnceWeek" "theActs" "LTrueOnceWeek$Acts;") (by decide +kernel)
  have f64 := hts (.fieldLink RX9 64 "TrueOnceWeek" "isKept" "[Z") (by decide +kernel)
  have f94 := va_Nw.use (A := [.ref a_th].toArray) (w := .fieldLinkNest RX9 94 "TrueOnceWeek$Castle" "facts" "I" "TrueOnceWeek") rfl (hG.1 (RX9, 94, "TrueOnceWeek$Castle", "facts", "I") (by decide +kernel))
  refine kb_gen (fun Q hQ => ?_)
  unfold m_X9_castle at hm
  refine lv_aload_n hx hb dX9_castle_0 rfl (lv_at hl 0 rfl) ?_
  refine va_get (D := (dC, dI)) (ci := 7) (v := .ref a_theText) (C := RX9) (T := TX9) (N := 11) hx hb hts iX9 hown hK hP 0 rfl rfl 0 (by decide) f14 (fun _ h9 => h9) rfl dX9_castle_1 ?_
  obtain ⟨r1, ho2, hm⟩ := bd1_s hm
  refine kb_calli (Rv := r1) (va_runS (As := [.ref a_theText]) (rest := []) ⟨hx, hb, hml, hown, hts⟩ (c_X1_firstFault l dC dI cI cJ cZ cQ t s.heap.size a_theText a_theText_bytes n_theText_bytes v_theText_length v_theText_bytes (r1) ho2) (va_cwS 1 hts gX9_castle_X1_firstFault rfl rfl rfl (by decide +kernel) ⟨(Nat.le_of_ble_eq_true rfl), (Nat.le_of_ble_eq_true rfl)⟩) (kb_pre hK hG hP (kb_D hD rfl) hS hA [1, 2] rfl (by decide)) rfl rfl hl.1 rfl (lv_room (Nat.le_of_ble_eq_true rfl)) dX9_castle_4 ⟨Nat.zero_le _, Nat.zero_le _⟩) hP (kb_D hD rfl) hS hA [1, 2] rfl [(false, 0), (true, 0), (true, 1), (false, 3), (false, 4), (false, 5), (false, 6), (false, 7)] (w2 := [oX9 a_th (.ref a_theText) q_theQuestion (.ref a_theCastle) (.ref a_now) (.ref a_theActs) q_theTold q_foresight q_keptMoments (.ref a_isKept) q_marchWorlds (.long v_theSeed), oX3 a_theText (.ref a_theText_bytes) (.int v_theText_length), aI cI a_theText_bytes n_theText_bytes v_theText_bytes, oX1 a_theCastle (.int v_theCastle_facts) (.int v_theCastle_so) (.int v_theCastle_common) (.int v_theCastle_cases) (.int v_theCastle_firstTrueDay), oX4 a_now (.int v_now_date) (.int v_now_trueDay) (.int v_now_wasAsked) (.int v_now_clothState) (.int v_now_cracks) (.ref a_now_known), aI cI a_now_known 7 v_now_known, oX0 a_theActs q_theActs_moments q_theActs_seeds (.int v_theActs_next) (.int v_theActs_count), aI cZ a_isKept 2 v_isKept]) rfl (by decide) (fun H locs hP hS => ?_)
  refine lv_bipush (v := (-9 : Int32)) hx hb dX9_castle_7 (by decide) ?_
  refine lv_icmp_eq (tgt := 15) hx hb dX9_castle_9 (by decide) (fun c3 => ?_) (fun c3 => ?_)
  · replace hm := ite_t c3 hm
    refine lv_aload_n hx hb dX9_castle_15 rfl (lv_at hl 0 rfl) ?_
    refine va_get (D := (dC, dI)) (ci := 7) (v := .ref a_theCastle) (C := RX9) (T := TX9) (N := 11) hx hb hts iX9 hown hK hP 0 rfl rfl 2 (by decide) f28 (fun _ h9 => h9) rfl dX9_castle_16 ?_
    refine lv_aload_n hx hb dX9_castle_19 rfl (lv_at hl 0 rfl) ?_
    refine va_get (D := (dC, dI)) (ci := 7) (v := .ref a_theText) (C := RX9) (T := TX9) (N := 11) hx hb hts iX9 hown hK hP 0 rfl rfl 0 (by decide) f14 (fun _ h9 => h9) rfl dX9_castle_20 ?_
    obtain ⟨w4, w5, w6, w7, w8, ho9, hm⟩ := bd5_s hm
    refine kb_callv (va_runV (As := [.ref a_theText]) (rest := []) ⟨hx, hb, hml, hown, hts⟩ (c_X1_read l dC dI cI cJ cZ cQ t H.size a_theCastle a_theText a_theText_bytes n_theText_bytes v_theCastle_facts v_theCastle_so v_theCastle_common v_theCastle_cases v_theCastle_firstTrueDay v_theText_length v_theText_bytes (w4, w5, w6, w7, w8) ho9) (cwV 1 hts gX9_castle_X1_read rfl rfl rfl (by decide +kernel) ⟨(Nat.le_of_ble_eq_true rfl), (Nat.le_of_ble_eq_true rfl)⟩) ⟨(kb_pre hK hG hP (kb_D hD rfl) hS hA [3, 1, 2] rfl (by decide)).1, (va_recv hK hP (ci := 1) (q0 := 3) rfl rfl), (kb_pre hK hG hP (kb_D hD rfl) hS hA [3, 1, 2] rfl (by decide)).2⟩ rfl rfl hl.1 rfl (lv_room (Nat.le_of_ble_eq_true rfl)) dX9_castle_23 ⟨Nat.zero_le _, Nat.zero_le _⟩) hP (kb_D hD rfl) hS hA [3, 1, 2] rfl [(false, 0), (true, 1), (true, 2), (true, 0), (false, 4), (false, 5), (false, 6), (false, 7)] (w2 := [oX9 a_th (.ref a_theText) q_theQuestion (.ref a_theCastle) (.ref a_now) (.ref a_theActs) q_theTold q_foresight q_keptMoments (.ref a_isKept) q_marchWorlds (.long v_theSeed), oX3 a_theText (.ref a_theText_bytes) (.int v_theText_length), aI cI a_theText_bytes n_theText_bytes v_theText_bytes, oX1 a_theCastle (.int w4) (.int w5) (.int w6) (.int w7) (.int w8), oX4 a_now (.int v_now_date) (.int v_now_trueDay) (.int v_now_wasAsked) (.int v_now_clothState) (.int v_now_cracks) (.ref a_now_known), aI cI a_now_known 7 v_now_known, oX0 a_theActs q_theActs_moments q_theActs_seeds (.int v_theActs_next) (.int v_theActs_count), aI cZ a_isKept 2 v_isKept]) rfl (by decide) (fun H locs hP hS => ?_)
    refine lv_aload_n hx hb dX9_castle_26 rfl (lv_at hl 0 rfl) ?_
    refine va_get (D := (dC, dI)) (ci := 7) (v := .ref a_now) (C := RX9) (T := TX9) (N := 11) hx hb hts iX9 hown hK hP 0 rfl rfl 3 (by decide) f35 (fun _ h9 => h9) rfl dX9_castle_27 ?_
    refine lv_aload_n hx hb dX9_castle_30 rfl (lv_at hl 0 rfl) ?_
    refine va_get (D := (dC, dI)) (ci := 7) (v := .ref a_theCastle) (C := RX9) (T := TX9) (N := 11) hx hb hts iX9 hown hK hP 0 rfl rfl 2 (by decide) f28 (fun _ h9 => h9) rfl dX9_castle_31 ?_
    obtain ⟨w10, w11, w12, w13, w14, w15, ho16, hm⟩ := bd6_s hm
    refine kb_callv (va_runV (As := [.ref a_theCastle]) (rest := []) ⟨hx, hb, hml, hown, hts⟩ (c_X4_begin l dC dI cI cJ cZ cQ t H.size a_now a_theCastle a_now_known v_now_date v_now_trueDay v_now_wasAsked v_now_clothState v_now_cracks w4 w5 w6 w7 w8 v_now_known (w10, w11, w12, w13, w14, w15) ho16) (cwV 1 hts gX9_castle_X4_begin rfl rfl rfl (by decide +kernel) ⟨(Nat.le_of_ble_eq_true rfl), (Nat.le_of_ble_eq_true rfl)⟩) ⟨(kb_pre hK hG hP (kb_D hD rfl) hS hA [4, 3, 5] rfl (by decide)).1, (va_recv hK hP (ci := 4) (q0 := 4) rfl rfl), (kb_pre hK hG hP (kb_D hD rfl) hS hA [4, 3, 5] rfl (by decide)).2⟩ rfl rfl hl.1 rfl (lv_room (Nat.le_of_ble_eq_true rfl)) dX9_castle_34 ⟨Nat.zero_le _, Nat.zero_le _⟩) hP (kb_D hD rfl) hS hA [4, 3, 5] rfl [(false, 0), (false, 1), (false, 2), (true, 1), (true, 0), (true, 2), (false, 6), (false, 7)] (w2 := [oX9 a_th (.ref a_theText) q_theQuestion (.ref a_theCastle) (.ref a_now) (.ref a_theActs) q_theTold q_foresight q_keptMoments (.ref a_isKept) q_marchWorlds (.long v_theSeed), oX3 a_theText (.ref a_theText_bytes) (.int v_theText_length), aI cI a_theText_bytes n_theText_bytes v_theText_bytes, oX1 a_theCastle (.int w4) (.int w5) (.int w6) (.int w7) (.int w8), oX4 a_now (.int w10) (.int w11) (.int w12) (.int w13) (.int w14) (.ref a_now_known), aI cI a_now_known 7 w15, oX0 a_theActs q_theActs_moments q_theActs_seeds (.int v_theActs_next) (.int v_theActs_count), aI cZ a_isKept 2 v_isKept]) rfl (by decide) (fun H locs hP hS => ?_)
    refine lv_aload_n hx hb dX9_castle_37 rfl (lv_at hl 0 rfl) ?_
    refine va_get (D := (dC, dI)) (ci := 7) (v := .ref a_theActs) (C := RX9) (T := TX9) (N := 11) hx hb hts iX9 hown hK hP 0 rfl rfl 4 (by decide) f42 (fun _ h9 => h9) rfl dX9_castle_38 ?_
    obtain ⟨w17, ho18, hm⟩ := bd1_s hm
    refine kb_callv (va_runV (As := []) (rest := []) ⟨hx, hb, hml, hown, hts⟩ (c_X0_forget l dC dI cI cJ cZ cQ t H.size a_theActs q_theActs_moments q_theActs_seeds v_theActs_next v_theActs_count (w17) ho18) (cwV 0 hts gX9_castle_X0_forget rfl rfl rfl (by decide +kernel) ⟨(Nat.le_of_ble_eq_true rfl), (Nat.le_of_ble_eq_true rfl)⟩) ⟨(kb_pre hK hG hP (kb_D hD rfl) hS hA [6] rfl (by decide)).1, (va_recv hK hP (ci := 0) (q0 := 6) rfl rfl), (kb_pre hK hG hP (kb_D hD rfl) hS hA [6] rfl (by decide)).2⟩ rfl rfl hl.1 rfl (lv_room (Nat.le_of_ble_eq_true rfl)) dX9_castle_41 ⟨Nat.zero_le _, Nat.zero_le _⟩) hP (kb_D hD rfl) hS hA [6] rfl [(false, 0), (false, 1), (false, 2), (false, 3), (false, 4), (false, 5), (true, 0), (false, 7)] (w2 := [oX9 a_th (.ref a_theText) q_theQuestion (.ref a_theCastle) (.ref a_now) (.ref a_theActs) q_theTold q_foresight q_keptMoments (.ref a_isKept) q_marchWorlds (.long v_theSeed), oX3 a_theText (.ref a_theText_bytes) (.int v_theText_length), aI cI a_theText_bytes n_theText_bytes v_theText_bytes, oX1 a_theCastle (.int w4) (.int w5) (.int w6) (.int w7) (.int w8), oX4 a_now (.int w10) (.int w11) (.int w12) (.int w13) (.int w14) (.ref a_now_known), aI cI a_now_known 7 w15, oX0 a_theActs q_theActs_moments q_theActs_seeds (.int v_theActs_next) (.int w17), aI cZ a_isKept 2 v_isKept]) rfl (by decide) (fun H locs hP hS => ?_)
    refine lv_iconst (v := (0 : Int32)) hx hb dX9_castle_44 (by decide) ?_
    refine lv_istore_n (lv' := [(1, .int (0 : Int32)), (0, .ref a_th)]) hx hb dX9_castle_45 rfl hl (by decide) rfl (fun ls hl => ?_)
    have lp46 : ∀ (n46 : Nat) (x19 : Int32) (w20 : (Nat → Int32)) (k46 : (Nat → Int32) → Option (Int32 × Int32 × Int32 × Int32 × Int32 × Int32 × Int32 × Int32 × Int32 × Int32 × Int32 × (Nat → Int32) × Int32 × (Nat → Int32))) (H : Heap) (locs : List Loc) (ls : Array Slot), L_X9_castle_46 n46 x19 w20 k46 = some o → (∀ (w21 : (Nat → Int32)) (H : Heap) (locs : List Loc) (ls : Array Slot), k46 w21 = some o → va_P (dC, dI) vwCl [oX9 a_th (.ref a_theText) q_theQuestion (.ref a_theCastle) (.ref a_now) (.ref a_theActs) q_theTold q_foresight q_keptMoments (.ref a_isKept) q_marchWorlds (.long v_theSeed), oX3 a_theText (.ref a_theText_bytes) (.int v_theText_length), aI cI a_theText_bytes n_theText_bytes v_theText_bytes, oX1 a_theCastle (.int w4) (.int w5) (.int w6) (.int w7) (.int w8), oX4 a_now (.int w10) (.int w11) (.int w12) (.int w13) (.int w14) (.ref a_now_known), aI cI a_now_known 7 w15, oX0 a_theActs q_theActs_moments q_theActs_seeds (.int v_theActs_next) (.int w17), aI cZ a_isKept 2 w21] H → va_S A s.heap H locs → lv_has ls 2 [(0, .ref a_th)] → W p l e (headSpec wsX9_castle { frames := 2, cells := 0, slots := 0, locals := 45 }).room s m [.ref a_th].toArray below meth c H locs 0 0 Q (F0 m 64 ls [])) → va_P (dC, dI) vwCl [oX9 a_th (.ref a_theText) q_theQuestion (.ref a_theCastle) (.ref a_now) (.ref a_theActs) q_theTold q_foresight q_keptMoments (.ref a_isKept) q_marchWorlds (.long v_theSeed), oX3 a_theText (.ref a_theText_bytes) (.int v_theText_length), aI cI a_theText_bytes n_theText_bytes v_theText_bytes, oX1 a_theCastle (.int w4) (.int w5) (.int w6) (.int w7) (.int w8), oX4 a_now (.int w10) (.int w11) (.int w12) (.int w13) (.int w14) (.ref a_now_known), aI cI a_now_known 7 w15, oX0 a_theActs q_theActs_moments q_theActs_seeds (.int v_theActs_next) (.int w17), aI cZ a_isKept 2 w20] H → va_S A s.heap H locs → lv_has ls 2 [(0, .ref a_th), (1, .int x19)] → W p l e (headSpec wsX9_castle { frames := 2, cells := 0, slots := 0, locals := 45 }).room s m [.ref a_th].toArray below meth c H locs 0 0 Q (F0 m 46 ls []) := by
      intro n46
      induction n46 with
      | zero =>
        intro x19 w20 k46 H locs ls hm
        cases (show (none : Option (Int32 × Int32 × Int32 × Int32 × Int32 × Int32 × Int32 × Int32 × Int32 × Int32 × Int32 × (Nat → Int32) × Int32 × (Nat → Int32))) = some o from hm)
      | succ n46 ih46 =>
        intro x19 w20 k46 H locs ls hm hk46 hP hS hl
        rw [L_X9_castle_46.eq_2] at hm
        refine lv_iload_n hx hb dX9_castle_46 rfl (lv_at hl 1 rfl) ?_
        refine lv_iconst (v := (2 : Int32)) hx hb dX9_castle_47 (by decide) ?_
        refine lv_icmp_ge (tgt := 64) hx hb dX9_castle_48 (by decide) (fun c22 => ?_) (fun c22 => ?_)
        · replace hm := ite_t c22 hm
          exact hk46 w20 _ _ _ hm hP hS (lv_sub hl [0] rfl)
        · replace hm := ite_f c22 hm
          refine lv_aload_n hx hb dX9_castle_51 rfl (lv_at hl 0 rfl) ?_
          refine va_get (D := (dC, dI)) (ci := 7) (v := .ref a_isKept) (C := RX9) (T := TX9) (N := 11) hx hb hts iX9 hown hK hP 0 rfl rfl 8 (by decide) f64 (fun _ h9 => h9) rfl dX9_castle_52 ?_
          refine lv_iload_n hx hb dX9_castle_55 rfl (lv_at hl 1 rfl) ?_
          refine lv_iconst (v := (0 : Int32)) hx hb dX9_castle_56 (by decide) ?_
          obtain ⟨h23, hm⟩ := gd_s hm
          refine va_zast hx hb hK hP (kb_D hD rfl) hS 7 2 rfl rfl (inB_s h23) dX9_castle_57 (fun H locs hP _ hS => ?_)
          have hP : va_P (dC, dI) vwCl [oX9 a_th (.ref a_theText) q_theQuestion (.ref a_theCastle) (.ref a_now) (.ref a_theActs) q_theTold q_foresight q_keptMoments (.ref a_isKept) q_marchWorlds (.long v_theSeed), oX3 a_theText (.ref a_theText_bytes) (.int v_theText_length), aI cI a_theText_bytes n_theText_bytes v_theText_bytes, oX1 a_theCastle (.int w4) (.int w5) (.int w6) (.int w7) (.int w8), oX4 a_now (.int w10) (.int w11) (.int w12) (.int w13) (.int w14) (.ref a_now_known), aI cI a_now_known 7 w15, oX0 a_theActs q_theActs_moments q_theActs_seeds (.int v_theActs_next) (.int w17), aI cZ a_isKept 2 (upd w20 (Int32.toNatClampNeg x19) (vp_nar .boolean (0 : Int32)))] H := hP
          obtain ⟨x24, ex24⟩ : ∃ y : Int32, y = x19 + (1 : Int32) := ⟨_, rfl⟩
          replace hm := nm_t ex24 hm
          refine lv_iinc (v := x24) (lv' := [(1, .int x24), (0, .ref a_th)]) hx hb dX9_castle_58 hl (k := 1) rfl (by rw [ex24]; rfl) (by decide) rfl (fun ls hl => ?_)
          refine lv_goto (tgt := 46) hx hb dX9_castle_61 (by decide) ?_
          exact ih46 x24 (upd w20 (Int32.toNatClampNeg x19) (vp_nar .boolean (0 : Int32))) k46 _ _ _ hm hk46 hP hS (lv_sub hl [1, 0] rfl)
    refine lp46 1024 (0 : Int32) v_isKept _ _ _ _ hm (fun w21 H locs ls hm hP hS hl => ?_) hP hS (lv_sub hl [1, 0] rfl)
    refine lv_aload_n hx hb dX9_castle_64 rfl (lv_at hl 0 rfl) ?_
    refine va_get (D := (dC, dI)) (ci := 7) (v := .ref a_theCastle) (C := RX9) (T := TX9) (N := 11) hx hb hts iX9 hown hK hP 0 rfl rfl 2 (by decide) f28 (fun _ h9 => h9) rfl dX9_castle_65 ?_
    refine va_getN (D := (dC, dI)) (ci := 1) (v := .int w4) (C := RX1) (T := TX1) (N := 5) hx hb hts iX1 hown hK hP 3 rfl rfl 0 (by decide) f94 (fun _ h9 => h9) rfl dX9_castle_68 ?_
    cases hm
    subst hQ
    exact W.iret hx hb hr (fun t ht hW => ⟨⟨_, (), rfl, rfl, kb_h hP ht⟩, hS.F ht⟩) hS.2.2 dX9_castle_71
  · replace hm := ite_f c3 hm
    refine lv_bipush (v := (-3 : Int32)) hx hb dX9_castle_12 (by decide) ?_
    cases hm
    subst hQ
    exact W.iret hx hb hr (fun t ht hW => ⟨⟨_, (), rfl, rfl, kb_h hP ht⟩, hS.F ht⟩) hS.2.2 dX9_castle_14
set_option maxHeartbeats 4000000 in
set_option maxRecDepth 100000 in
theorem c_X9_quill (l : Launch) (dC : Nat → ClassId) (dI : Nat → Nat → Nat) (cI cJ cZ cQ : ClassId) (t sz : Nat) (a_th : Nat) (a_theQuestion : Nat) (a_theQuestion_letters : Nat) (a_theQuestion_letters_bytes : Nat) (n_theQuestion_letters_bytes : Nat) (q_theText : Value) (q_theCastle : Value) (q_now : Value) (q_theActs : Value) (q_theTold : Value) (q_foresight : Value) (q_keptMoments : Value) (q_isKept : Value) (q_marchWorlds : Value) (q_theQuestion_stack : Value) (v_theSeed : Int64) (v_theQuestion_letters_length : Int32) (v_theQuestion_letters_bytes : (Nat → Int32)) (p_1 : Int32) (o : Int32 × Int32 × (Nat → Int32)) (hm : m_X9_quill p_1 n_theQuestion_letters_bytes v_theQuestion_letters_length v_theQuestion_letters_bytes = some o) : Met l yX9_quill wsX9_quill { frames := 1, cells := 0, slots := 0, locals := 21 } (va_Pc [.ref a_th, .int p_1] (cP (dC, dI) (kT cI cJ cZ cQ) t sz [oX9 a_th q_theText (.ref a_theQuestion) q_theCastle q_now q_theActs q_theTold q_foresight q_keptMoments q_isKept q_marchWorlds (.long v_theSeed), oX5 a_theQuestion (.ref a_theQuestion_letters) q_theQuestion_stack, oX3 a_theQuestion_letters (.ref a_theQuestion_letters_bytes) (.int v_theQuestion_letters_length), aI cI a_theQuestion_letters_bytes n_theQuestion_letters_bytes v_theQuestion_letters_bytes])) (cQi (dC, dI) (va_A [oX9 a_th q_theText (.ref a_theQuestion) q_theCastle q_now q_theActs q_theTold q_foresight q_keptMoments q_isKept q_marchWorlds (.long v_theSeed), oX5 a_theQuestion (.ref a_theQuestion_letters) q_theQuestion_stack, oX3 a_theQuestion_letters (.ref a_theQuestion_letters_bytes) (.int v_theQuestion_letters_length), aI cI a_theQuestion_letters_bytes n_theQuestion_letters_bytes v_theQuestion_letters_bytes] sz) o.1 [oX9 a_th q_theText (.ref a_theQuestion) q_theCastle q_now q_theActs q_theTold q_foresight q_keptMoments q_isKept q_marchWorlds (.long v_theSeed), oX5 a_theQuestion (.ref a_theQuestion_letters) q_theQuestion_stack, oX3 a_theQuestion_letters (.ref a_theQuestion_letters_bytes) (.int (o.2.1)), aI cI a_theQuestion_letters_bytes n_theQuestion_letters_bytes (o.2.2)]) 0 0 (va_A [oX9 a_th q_theText (.ref a_theQuestion) q_theCastle q_now q_theActs q_theTold q_foresight q_keptMoments q_isKept q_marchWorlds (.long v_theSeed), oX5 a_theQuestion (.ref a_theQuestion_letters) q_theQuestion_stack, oX3 a_theQuestion_letters (.ref a_theQuestion_letters_bytes) (.int v_theQuestion_letters_length), aI cI a_theQuestion_letters_bytes n_theQuestion_letters_bytes v_theQuestion_letters_bytes] sz) := by
  refine Met.ofW (cc := cX9_quill) (maxL := 2) (ret := (some .int)) (by decide) rfl ?_
  intro p e s m args below meth c s₁ B hml hv
  obtain ⟨rfl, hsz, hP, hK, hD0, hG⟩ := hv
  have hx := B.exec
  have hb := B.bytes
  have hr := B.returns
  have hts := atoms_spec (ws := wsX9_quill) B.pre
  have hown : s.vm.findClass RX9 = some m.cls := findClass_of_methodNamed B.named
  have hlocks := B.notSynchronized
  subst hsz
  have hD := hD0.self (sz := s.heap.size)
  generalize hAe : va_A [oX9 a_th q_theText (.ref a_theQuestion) q_theCastle q_now q_theActs q_theTold q_foresight q_keptMoments q_isKept q_marchWorlds (.long v_theSeed), oX5 a_theQuestion (.ref a_theQuestion_letters) q_theQuestion_stack, oX3 a_theQuestion_letters (.ref a_theQuestion_letters_bytes) (.int v_theQuestion_letters_length), aI cI a_theQuestion_letters_bytes n_theQuestion_letters_bytes v_theQuestion_letters_bytes] s.heap.size = A at hD hG ⊢
  have hA : ∀ q : Nat, s.heap.size ≤ q → A q := fun q h => by rw [← hAe]; exact Or.inr h
  have hS : va_S A s.heap s.heap [] := va_S.rf
  have hl := lv_entry ([.ref a_th, .int p_1]) (n := 2) (Nat.le_of_ble_eq_true rfl)
  rw [lg_entry_eq]
  generalize (lg_sl ([.ref a_th, .int p_1]) ++ List.replicate (2 - (lg_sl ([.ref a_th, .int p_1])).length) Slot.unset).toArray = ls at hl ⊢
  have hl : lv_has ls 2 [(0, .ref a_th), (1, .int p_1)] := hl
  have iX9 : ∀ w ∈ wsX90, w ∈ wsX9_quill := fun _ h => List.mem_cons_of_mem _ (List.mem_append_left _ (List.mem_append_left _ (List.mem_append_right _ h)))
  have iX5 : ∀ w ∈ wsX50, w ∈ wsX9_quill := fun _ h => List.mem_cons_of_mem _ (List.mem_append_left _ (List.mem_append_right _ h))
  have iX3 : ∀ w ∈ wsX30, w ∈ wsX9_quill := fun _ h => List.mem_cons_of_mem _ (List.mem_append_right _ h)
  have f21 := hts (.fieldLink RX9 21 "TrueOnceWeek" "theQuestion" "LTrueOnceWeek$Question;") (by decide +kernel)
  have f98 := va_Nw.use (A := [.ref a_th, .int p_1].toArray) (w := .fieldLinkNest RX9 98 "TrueOnceWeek$Question" "letters" "LTrueOnceWeek$Letters;" "TrueOnceWeek") rfl (hG.1 (RX9, 98, "TrueOnceWeek$Question", "letters", "LTrueOnceWeek$Letters;") (by decide +kernel))
  refine kb_gen (fun Q hQ => ?_)
  unfold m_X9_quill at hm
  refine lv_aload_n hx hb dX9_quill_0 rfl (lv_at hl 0 rfl) ?_
  refine va_get (D := (dC, dI)) (ci := 7) (v := .ref a_theQuestion) (C := RX9) (T := TX9) (N := 11) hx hb hts iX9 hown hK hP 0 rfl rfl 1 (by decide) f21 (fun _ h9 => h9) rfl dX9_quill_1 ?_
  refine va_getN (D := (dC, dI)) (ci := 5) (v := .ref a_theQuestion_letters) (C := RX5) (T := TX5) (N := 2) hx hb hts iX5 hown hK hP 1 rfl rfl 0 (by decide) f98 (fun _ h9 => h9) rfl dX9_quill_4 ?_
  refine lv_iload_n hx hb dX9_quill_7 rfl (lv_at hl 1 rfl) ?_
  obtain ⟨r1, w2, w3, ho4, hm⟩ := bd3_s hm
  refine kb_calli (Rv := r1) (va_runV (As := [.int p_1]) (rest := []) ⟨hx, hb, hml, hown, hts⟩ (c_X3_append l dC dI cI cJ cZ cQ t s.heap.size a_theQuestion_letters a_theQuestion_letters_bytes n_theQuestion_letters_bytes v_theQuestion_letters_length v_theQuestion_letters_bytes p_1 (r1, w2, w3) ho4) (cwV 1 hts gX9_quill_X3_append rfl rfl rfl (by decide +kernel) ⟨(Nat.le_of_ble_eq_true rfl), (Nat.le_of_ble_eq_true rfl)⟩) ⟨(kb_pre hK hG hP (kb_D hD rfl) hS hA [2, 3] rfl (by decide)).1, (va_recv hK hP (ci := 3) (q0 := 2) rfl rfl), (kb_pre hK hG hP (kb_D hD rfl) hS hA [2, 3] rfl (by decide)).2⟩ rfl rfl hl.1 rfl (lv_room (Nat.le_of_ble_eq_true rfl)) dX9_quill_8 ⟨Nat.zero_le _, Nat.zero_le _⟩) hP (kb_D hD rfl) hS hA [2, 3] rfl [(false, 0), (false, 1), (true, 0), (true, 1)] (w2 := [oX9 a_th q_theText (.ref a_theQuestion) q_theCastle q_now q_theActs q_theTold q_foresight q_keptMoments q_isKept q_marchWorlds (.long v_theSeed), oX5 a_theQuestion (.ref a_theQuestion_letters) q_theQuestion_stack, oX3 a_theQuestion_letters (.ref a_theQuestion_letters_bytes) (.int w2), aI cI a_theQuestion_letters_bytes n_theQuestion_letters_bytes w3]) rfl (by decide) (fun H locs hP hS => ?_)
  cases hm
  subst hQ
  exact W.iret hx hb hr (fun t ht hW => ⟨⟨_, (), rfl, rfl, kb_h hP ht⟩, hS.F ht⟩) hS.2.2 dX9_quill_11
set_option maxHeartbeats 4000000 in
set_option maxRecDepth 100000 in
theorem c_X9_blot (l : Launch) (dC : Nat → ClassId) (dI : Nat → Nat → Nat) (cI cJ cZ cQ : ClassId) (t sz : Nat) (a_th : Nat) (a_theQuestion : Nat) (a_theQuestion_letters : Nat) (q_theText : Value) (q_theCastle : Value) (q_now : Value) (q_theActs : Value) (q_theTold : Value) (q_foresight : Value) (q_keptMoments : Value) (q_isKept : Value) (q_marchWorlds : Value) (q_theQuestion_stack : Value) (q_theQuestion_letters_bytes : Value) (v_theSeed : Int64) (v_theQuestion_letters_length : Int32) (o : Int32 × Int32) (hm : m_X9_blot v_theQuestion_letters_length = some o) : Met l yX9_blot wsX9_blot { frames := 1, cells := 0, slots := 0, locals := 21 } (va_Pc [.ref a_th] (cP (dC, dI) (kT cI cJ cZ cQ) t sz [oX9 a_th q_theText (.ref a_theQuestion) q_theCastle q_now q_theActs q_theTold q_foresight q_keptMoments q_isKept q_marchWorlds (.long v_theSeed), oX5 a_theQuestion (.ref a_theQuestion_letters) q_theQuestion_stack, oX3 a_theQuestion_letters q_theQuestion_letters_bytes (.int v_theQuestion_letters_length)])) (cQi (dC, dI) (va_A [oX9 a_th q_theText (.ref a_theQuestion) q_theCastle q_now q_theActs q_theTold q_foresight q_keptMoments q_isKept q_marchWorlds (.long v_theSeed), oX5 a_theQuestion (.ref a_theQuestion_letters) q_theQuestion_stack, oX3 a_theQuestion_letters q_theQuestion_letters_bytes (.int v_theQuestion_letters_length)] sz) o.1 [oX9 a_th q_theText (.ref a_theQuestion) q_theCastle q_now q_theActs q_theTold q_foresight q_keptMoments q_isKept q_marchWorlds (.long v_theSeed), oX5 a_theQuestion (.ref a_theQuestion_letters) q_theQuestion_stack, oX3 a_theQuestion_letters q_theQuestion_letters_bytes (.int (o.2))]) 0 0 (va_A [oX9 a_th q_theText (.ref a_theQuestion) q_theCastle q_now q_theActs q_theTold q_foresight q_keptMoments q_isKept q_marchWorlds (.long v_theSeed), oX5 a_theQuestion (.ref a_theQuestion_letters) q_theQuestion_stack, oX3 a_theQuestion_letters q_theQuestion_letters_bytes (.int v_theQuestion_letters_length)] sz) := by
  refine Met.ofW (cc := cX9_blot) (maxL := 1) (ret := (some .int)) (by decide) rfl ?_
  intro p e s m args below meth c s₁ B hml hv
  obtain ⟨rfl, hsz, hP, hK, hD0, hG⟩ := hv
  have hx := B.exec
  have hb := B.bytes
  have hr := B.returns
  have hts := atoms_spec (ws := wsX9_blot) B.pre
  have hown : s.vm.findClass RX9 = some m.cls := findClass_of_methodNamed B.named
  have hlocks := B.notSynchronized
  subst hsz
  have hD := hD0.self (sz := s.heap.size)
  generalize hAe : va_A [oX9 a_th q_theText (.ref a_theQuestion) q_theCastle q_now q_theActs q_theTold q_foresight q_keptMoments q_isKept q_marchWorlds (.long v_theSeed), oX5 a_theQuestion (.ref a_theQuestion_letters) q_theQuestion_stack, oX3 a_theQuestion_letters q_theQuestion_letters_bytes (.int v_theQuestion_letters_length)] s.heap.size = A at hD hG ⊢
  have hA : ∀ q : Nat, s.heap.size ≤ q → A q := fun q h => by rw [← hAe]; exact Or.inr h
  have hS : va_S A s.heap s.heap [] := va_S.rf
  have hl := lv_entry ([.ref a_th]) (n := 1) (Nat.le_of_ble_eq_true rfl)
  rw [lg_entry_eq]
  generalize (lg_sl ([.ref a_th]) ++ List.replicate (1 - (lg_sl ([.ref a_th])).length) Slot.unset).toArray = ls at hl ⊢
  have hl : lv_has ls 1 [(0, .ref a_th)] := hl
  have iX9 : ∀ w ∈ wsX90, w ∈ wsX9_blot := fun _ h => List.mem_cons_of_mem _ (List.mem_append_left _ (List.mem_append_left _ (List.mem_append_right _ h)))
  have iX5 : ∀ w ∈ wsX50, w ∈ wsX9_blot := fun _ h => List.mem_cons_of_mem _ (List.mem_append_left _ (List.mem_append_right _ h))
  have iX3 : ∀ w ∈ wsX30, w ∈ wsX9_blot := fun _ h => List.mem_cons_of_mem _ (List.mem_append_right _ h)
  have f21 := hts (.fieldLink RX9 21 "TrueOnceWeek" "theQuestion" "LTrueOnceWeek$Question;") (by decide +kernel)
  have f98 := va_Nw.use (A := [.ref a_th].toArray) (w := .fieldLinkNest RX9 98 "TrueOnceWeek$Question" "letters" "LTrueOnceWeek$Letters;" "TrueOnceWeek") rfl (hG.1 (RX9, 98, "TrueOnceWeek$Question", "letters", "LTrueOnceWeek$Letters;") (by decide +kernel))
  refine kb_gen (fun Q hQ => ?_)
  unfold m_X9_blot at hm
  refine lv_aload_n hx hb dX9_blot_0 rfl (lv_at hl 0 rfl) ?_
  refine va_get (D := (dC, dI)) (ci := 7) (v := .ref a_theQuestion) (C := RX9) (T := TX9) (N := 11) hx hb hts iX9 hown hK hP 0 rfl rfl 1 (by decide) f21 (fun _ h9 => h9) rfl dX9_blot_1 ?_
  refine va_getN (D := (dC, dI)) (ci := 5) (v := .ref a_theQuestion_letters) (C := RX5) (T := TX5) (N := 2) hx hb hts iX5 hown hK hP 1 rfl rfl 0 (by decide) f98 (fun _ h9 => h9) rfl dX9_blot_4 ?_
  obtain ⟨r1, w2, ho3, hm⟩ := bd2_s hm
  refine kb_calli (Rv := r1) (va_runV (As := []) (rest := []) ⟨hx, hb, hml, hown, hts⟩ (c_X3_empty l dC dI cI cJ cZ cQ t s.heap.size a_theQuestion_letters q_theQuestion_letters_bytes v_theQuestion_letters_length (r1, w2) ho3) (cwV 0 hts gX9_blot_X3_empty rfl rfl rfl (by decide +kernel) ⟨(Nat.le_of_ble_eq_true rfl), (Nat.le_of_ble_eq_true rfl)⟩) ⟨(kb_pre hK hG hP (kb_D hD rfl) hS hA [2] rfl (by decide)).1, (va_recv hK hP (ci := 3) (q0 := 2) rfl rfl), (kb_pre hK hG hP (kb_D hD rfl) hS hA [2] rfl (by decide)).2⟩ rfl rfl hl.1 rfl (lv_room (Nat.le_of_ble_eq_true rfl)) dX9_blot_7 ⟨Nat.zero_le _, Nat.zero_le _⟩) hP (kb_D hD rfl) hS hA [2] rfl [(false, 0), (false, 1), (true, 0)] (w2 := [oX9 a_th q_theText (.ref a_theQuestion) q_theCastle q_now q_theActs q_theTold q_foresight q_keptMoments q_isKept q_marchWorlds (.long v_theSeed), oX5 a_theQuestion (.ref a_theQuestion_letters) q_theQuestion_stack, oX3 a_theQuestion_letters q_theQuestion_letters_bytes (.int w2)]) rfl (by decide) (fun H locs hP hS => ?_)
  cases hm
  subst hQ
  exact W.iret hx hb hr (fun t ht hW => ⟨⟨_, (), rfl, rfl, kb_h hP ht⟩, hS.F ht⟩) hS.2.2 dX9_blot_10
set_option maxHeartbeats 4000000 in
set_option maxRecDepth 100000 in
theorem c_X5_isJoin (l : Launch) (dC : Nat → ClassId) (dI : Nat → Nat → Nat) (cI cJ cZ cQ : ClassId) (t sz : Nat) (p_0 : Int32) (o : Int32) (hm : m_X5_isJoin p_0 = some o) : Met l yX5_isJoin wsX5_isJoin { frames := 0, cells := 0, slots := 0, locals := 0 } (va_Pc [.int p_0] (cP (dC, dI) (kT cI cJ cZ cQ) t sz [])) (cQi (dC, dI) (va_A [] sz) o []) 0 0 (va_A [] sz) := by
  refine Met.ofW (cc := cX5_isJoin) (maxL := 1) (ret := (some .boolean)) (by decide) rfl ?_
  intro p e s m args below meth c s₁ B hml hv
  obtain ⟨rfl, hsz, hP, hK, hD0, hG⟩ := hv
  have hx := B.exec
  have hb := B.bytes
  have hr := B.returns
  have hts := atoms_spec (ws := wsX5_isJoin) B.pre
  have hown : s.vm.findClass RX5 = some m.cls := findClass_of_methodNamed B.named
  have hlocks := B.notSynchronized
  subst hsz
  have hD := hD0.self (sz := s.heap.size)
  generalize hAe : va_A [] s.heap.size = A at hD hG ⊢
  have hA : ∀ q : Nat, s.heap.size ≤ q → A q := fun q h => by rw [← hAe]; exact Or.inr h
  have hS : va_S A s.heap s.heap [] := va_S.rf
  have hl := lv_entry ([.int p_0]) (n := 1) (Nat.le_of_ble_eq_true rfl)
  rw [lg_entry_eq]
  generalize (lg_sl ([.int p_0]) ++ List.replicate (1 - (lg_sl ([.int p_0])).length) Slot.unset).toArray = ls at hl ⊢
  have hl : lv_has ls 1 [(0, .int p_0)] := hl
  refine kb_gen (fun Q hQ => ?_)
  unfold m_X5_isJoin at hm
  refine lv_iload_n hx hb dX5_isJoin_0 rfl (lv_at hl 0 rfl) ?_
  refine lv_bipush (v := (38 : Int32)) hx hb dX5_isJoin_1 (by decide) ?_
  obtain ⟨k18, ek18, hm⟩ := nm_s hm
  have J18 : ∀ (H : Heap) (locs : List Loc) (ls : Array Slot), k18 = some o → va_P (dC, dI) vwCl [] H → va_S A s.heap H locs → lv_has ls 1 [] → W p l e (headSpec wsX5_isJoin { frames := 0, cells := 0, slots := 0, locals := 0 }).room s m [.int p_0].toArray below meth c H locs 0 0 Q (F0 m 18 ls []) := by
    intro  H locs ls hm hP hS hl
    rw [ek18] at hm
    refine lv_iconst (v := (1 : Int32)) hx hb dX5_isJoin_18 (by decide) ?_
    refine lv_goto (tgt := 23) hx hb dX5_isJoin_19 (by decide) ?_
    cases hm
    subst hQ
    exact W.zret hx hb hr rfl (fun t ht hW => ⟨⟨_, (), rfl, rfl, kb_h hP ht⟩, hS.F ht⟩) hS.2.2 dX5_isJoin_23
  refine lv_icmp_eq (tgt := 18) hx hb dX5_isJoin_3 (by decide) (fun c1 => ?_) (fun c1 => ?_)
  · replace hm := ite_t c1 hm
    exact J18  _ _ _ hm hP hS (lv_sub hl [] rfl)
  · replace hm := ite_f c1 hm
    refine lv_iload_n hx hb dX5_isJoin_6 rfl (lv_at hl 0 rfl) ?_
    refine lv_bipush (v := (124 : Int32)) hx hb dX5_isJoin_7 (by decide) ?_
    refine lv_icmp_eq (tgt := 18) hx hb dX5_isJoin_9 (by decide) (fun c2 => ?_) (fun c2 => ?_)
    · replace hm := ite_t c2 hm
      exact J18  _ _ _ hm hP hS (lv_sub hl [] rfl)
    · replace hm := ite_f c2 hm
      refine lv_iload_n hx hb dX5_isJoin_12 rfl (lv_at hl 0 rfl) ?_
      refine lv_bipush (v := (94 : Int32)) hx hb dX5_isJoin_13 (by decide) ?_
      refine lv_icmp_ne (tgt := 22) hx hb dX5_isJoin_15 (by decide) (fun c3 => ?_) (fun c3 => ?_)
      · replace hm := ite_f c3 hm
        refine lv_iconst (v := (0 : Int32)) hx hb dX5_isJoin_22 (by decide) ?_
        cases hm
        subst hQ
        exact W.zret hx hb hr rfl (fun t ht hW => ⟨⟨_, (), rfl, rfl, kb_h hP ht⟩, hS.F ht⟩) hS.2.2 dX5_isJoin_23
      · replace hm := ite_t c3 hm
        exact J18  _ _ _ hm hP hS (lv_sub hl [] rfl)
set_option maxHeartbeats 4000000 in
set_option maxRecDepth 100000 in
theorem c_X5_isSign (l : Launch) (dC : Nat → ClassId) (dI : Nat → Nat → Nat) (cI cJ cZ cQ : ClassId) (t sz : Nat) (p_0 : Int32) (o : Int32) (hm : m_X5_isSign p_0 = some o) : Met l yX5_isSign wsX5_isSign { frames := 1, cells := 0, slots := 0, locals := 20 } (va_Pc [.int p_0] (cP (dC, dI) (kT cI cJ cZ cQ) t sz [])) (cQi (dC, dI) (va_A [] sz) o []) 0 0 (va_A [] sz) := by
  refine Met.ofW (cc := cX5_isSign) (maxL := 1) (ret := (some .boolean)) (by decide) rfl ?_
  intro p e s m args below meth c s₁ B hml hv
  obtain ⟨rfl, hsz, hP, hK, hD0, hG⟩ := hv
  have hx := B.exec
  have hb := B.bytes
  have hr := B.returns
  have hts := atoms_spec (ws := wsX5_isSign) B.pre
  have hown : s.vm.findClass RX5 = some m.cls := findClass_of_methodNamed B.named
  have hlocks := B.notSynchronized
  subst hsz
  have hD := hD0.self (sz := s.heap.size)
  generalize hAe : va_A [] s.heap.size = A at hD hG ⊢
  have hA : ∀ q : Nat, s.heap.size ≤ q → A q := fun q h => by rw [← hAe]; exact Or.inr h
  have hS : va_S A s.heap s.heap [] := va_S.rf
  have hl := lv_entry ([.int p_0]) (n := 1) (Nat.le_of_ble_eq_true rfl)
  rw [lg_entry_eq]
  generalize (lg_sl ([.int p_0]) ++ List.replicate (1 - (lg_sl ([.int p_0])).length) Slot.unset).toArray = ls at hl ⊢
  have hl : lv_has ls 1 [(0, .int p_0)] := hl
  refine kb_gen (fun Q hQ => ?_)
  unfold m_X5_isSign at hm
  refine lv_iload_n hx hb dX5_isSign_0 rfl (lv_at hl 0 rfl) ?_
  refine lv_bipush (v := (110 : Int32)) hx hb dX5_isSign_1 (by decide) ?_
  obtain ⟨k13, ek13, hm⟩ := nm_s hm
  have J13 : ∀ (H : Heap) (locs : List Loc) (ls : Array Slot), k13 = some o → va_P (dC, dI) vwCl [] H → va_S A s.heap H locs → lv_has ls 1 [] → W p l e (headSpec wsX5_isSign { frames := 1, cells := 0, slots := 0, locals := 20 }).room s m [.int p_0].toArray below meth c H locs 0 0 Q (F0 m 13 ls []) := by
    intro  H locs ls hm hP hS hl
    rw [ek13] at hm
    refine lv_iconst (v := (1 : Int32)) hx hb dX5_isSign_13 (by decide) ?_
    refine lv_goto (tgt := 18) hx hb dX5_isSign_14 (by decide) ?_
    cases hm
    subst hQ
    exact W.zret hx hb hr rfl (fun t ht hW => ⟨⟨_, (), rfl, rfl, kb_h hP ht⟩, hS.F ht⟩) hS.2.2 dX5_isSign_18
  refine lv_icmp_eq (tgt := 13) hx hb dX5_isSign_3 (by decide) (fun c1 => ?_) (fun c1 => ?_)
  · replace hm := ite_t c1 hm
    exact J13  _ _ _ hm hP hS (lv_sub hl [] rfl)
  · replace hm := ite_f c1 hm
    refine lv_iload_n hx hb dX5_isSign_6 rfl (lv_at hl 0 rfl) ?_
    obtain ⟨r2, ho3, hm⟩ := bd1_s hm
    refine kb_calli (Rv := r2) (va_runS (As := [.int p_0]) (rest := []) ⟨hx, hb, hml, hown, hts⟩ (c_X5_isJoin l dC dI cI cJ cZ cQ t s.heap.size p_0 (r2) ho3) (va_cwS 1 hts gX5_isSign_X5_isJoin rfl rfl rfl (by decide +kernel) ⟨(Nat.le_of_ble_eq_true rfl), (Nat.le_of_ble_eq_true rfl)⟩) (kb_pre hK hG hP (kb_D hD rfl) hS hA [] rfl (by decide)) rfl rfl hl.1 rfl (lv_room (Nat.le_of_ble_eq_true rfl)) dX5_isSign_7 ⟨Nat.zero_le _, Nat.zero_le _⟩) hP (kb_D hD rfl) hS hA [] rfl [] (w2 := []) rfl (by decide) (fun H locs hP hS => ?_)
    refine lv_if_eq (tgt := 17) hx hb dX5_isSign_10 (by decide) (fun c4 => ?_) (fun c4 => ?_)
    · replace hm := ite_t c4 hm
      refine lv_iconst (v := (0 : Int32)) hx hb dX5_isSign_17 (by decide) ?_
      cases hm
      subst hQ
      exact W.zret hx hb hr rfl (fun t ht hW => ⟨⟨_, (), rfl, rfl, kb_h hP ht⟩, hS.F ht⟩) hS.2.2 dX5_isSign_18
    · replace hm := ite_f c4 hm
      exact J13  _ _ _ hm hP hS (lv_sub hl [] rfl)
set_option maxHeartbeats 4000000 in
set_option maxRecDepth 100000 in
theorem c_X5_simpleOf (l : Launch) (dC : Nat → ClassId) (dI : Nat → Nat → Nat) (cI cJ cZ cQ : ClassId) (t sz : Nat) (p_0 : Int32) (o : Int32) (hm : m_X5_simpleOf p_0 = some o) : Met l yX5_simpleOf wsX5_simpleOf { frames := 0, cells := 0, slots := 0, locals := 0 } (va_Pc [.int p_0] (cP (dC, dI) (kT cI cJ cZ cQ) t sz [])) (cQi (dC, dI) (va_A [] sz) o []) 0 0 (va_A [] sz) := by
  refine Met.ofW (cc := cX5_simpleOf) (maxL := 1) (ret := (some .int)) (by decide) rfl ?_
  intro p e s m args below meth c s₁ B hml hv
  obtain ⟨rfl, hsz, hP, hK, hD0, hG⟩ := hv
  have hx := B.exec
  have hb := B.bytes
  have hr := B.returns
  have hts := atoms_spec (ws := wsX5_simpleOf) B.pre
  have hown : s.vm.findClass RX5 = some m.cls := findClass_of_methodNamed B.named
  have hlocks := B.notSynchronized
  subst hsz
  have hD := hD0.self (sz := s.heap.size)
  generalize hAe : va_A [] s.heap.size = A at hD hG ⊢
  have hA : ∀ q : Nat, s.heap.size ≤ q → A q := fun q h => by rw [← hAe]; exact Or.inr h
  have hS : va_S A s.heap s.heap [] := va_S.rf
  have hl := lv_entry ([.int p_0]) (n := 1) (Nat.le_of_ble_eq_true rfl)
  rw [lg_entry_eq]
  generalize (lg_sl ([.int p_0]) ++ List.replicate (1 - (lg_sl ([.int p_0])).length) Slot.unset).toArray = ls at hl ⊢
  have hl : lv_has ls 1 [(0, .int p_0)] := hl
  refine kb_gen (fun Q hQ => ?_)
  unfold m_X5_simpleOf at hm
  refine lv_iload_n hx hb dX5_simpleOf_0 rfl (lv_at hl 0 rfl) ?_
  refine lv_bipush (v := (97 : Int32)) hx hb dX5_simpleOf_1 (by decide) ?_
  obtain ⟨k17, ek17, hm⟩ := nm_s hm
  have J17 : ∀ (H : Heap) (locs : List Loc) (ls : Array Slot), k17 = some o → va_P (dC, dI) vwCl [] H → va_S A s.heap H locs → lv_has ls 1 [(0, .int p_0)] → W p l e (headSpec wsX5_simpleOf { frames := 0, cells := 0, slots := 0, locals := 0 }).room s m [.int p_0].toArray below meth c H locs 0 0 Q (F0 m 17 ls []) := by
    intro  H locs ls hm hP hS hl
    rw [ek17] at hm
    refine lv_iload_n hx hb dX5_simpleOf_17 rfl (lv_at hl 0 rfl) ?_
    refine lv_bipush (v := (48 : Int32)) hx hb dX5_simpleOf_18 (by decide) ?_
    obtain ⟨k37, ek37, hm⟩ := nm_s hm
    have J37 : ∀ (H : Heap) (locs : List Loc) (ls : Array Slot), k37 = some o → va_P (dC, dI) vwCl [] H → va_S A s.heap H locs → lv_has ls 1 [(0, .int p_0)] → W p l e (headSpec wsX5_simpleOf { frames := 0, cells := 0, slots := 0, locals := 0 }).room s m [.int p_0].toArray below meth c H locs 0 0 Q (F0 m 37 ls []) := by
      intro  H locs ls hm hP hS hl
      rw [ek37] at hm
      refine lv_iload_n hx hb dX5_simpleOf_37 rfl (lv_at hl 0 rfl) ?_
      refine lv_bipush (v := (116 : Int32)) hx hb dX5_simpleOf_38 (by decide) ?_
      refine lv_icmp_ne (tgt := 45) hx hb dX5_simpleOf_40 (by decide) (fun c1 => ?_) (fun c1 => ?_)
      · replace hm := ite_f c1 hm
        refine lv_iload_n hx hb dX5_simpleOf_45 rfl (lv_at hl 0 rfl) ?_
        refine lv_bipush (v := (121 : Int32)) hx hb dX5_simpleOf_46 (by decide) ?_
        refine lv_icmp_ne (tgt := 56) hx hb dX5_simpleOf_48 (by decide) (fun c2 => ?_) (fun c2 => ?_)
        · replace hm := ite_f c2 hm
          refine lv_bipush (v := (-9 : Int32)) hx hb dX5_simpleOf_56 (by decide) ?_
          cases hm
          subst hQ
          exact W.iret hx hb hr (fun t ht hW => ⟨⟨_, (), rfl, rfl, kb_h hP ht⟩, hS.F ht⟩) hS.2.2 dX5_simpleOf_58
        · replace hm := ite_t c2 hm
          refine lv_bipush (v := (18 : Int32)) hx hb dX5_simpleOf_51 (by decide) ?_
          refine lv_goto (tgt := 58) hx hb dX5_simpleOf_53 (by decide) ?_
          cases hm
          subst hQ
          exact W.iret hx hb hr (fun t ht hW => ⟨⟨_, (), rfl, rfl, kb_h hP ht⟩, hS.F ht⟩) hS.2.2 dX5_simpleOf_58
      · replace hm := ite_t c1 hm
        refine lv_iconst (v := (5 : Int32)) hx hb dX5_simpleOf_43 (by decide) ?_
        cases hm
        subst hQ
        exact W.iret hx hb hr (fun t ht hW => ⟨⟨_, (), rfl, rfl, kb_h hP ht⟩, hS.F ht⟩) hS.2.2 dX5_simpleOf_44
    refine lv_icmp_lt (tgt := 37) hx hb dX5_simpleOf_20 (by decide) (fun c3 => ?_) (fun c3 => ?_)
    · replace hm := ite_t c3 hm
      exact J37  _ _ _ hm hP hS (lv_sub hl [0] rfl)
    · replace hm := ite_f c3 hm
      refine lv_iload_n hx hb dX5_simpleOf_23 rfl (lv_at hl 0 rfl) ?_
      refine lv_bipush (v := (54 : Int32)) hx hb dX5_simpleOf_24 (by decide) ?_
      refine lv_icmp_gt (tgt := 37) hx hb dX5_simpleOf_26 (by decide) (fun c4 => ?_) (fun c4 => ?_)
      · replace hm := ite_t c4 hm
        exact J37  _ _ _ hm hP hS (lv_sub hl [0] rfl)
      · replace hm := ite_f c4 hm
        refine lv_bipush (v := (6 : Int32)) hx hb dX5_simpleOf_29 (by decide) ?_
        refine lv_iload_n hx hb dX5_simpleOf_31 rfl (lv_at hl 0 rfl) ?_
        refine lv_iadd hx hb dX5_simpleOf_32 ?_
        refine lv_bipush (v := (48 : Int32)) hx hb dX5_simpleOf_33 (by decide) ?_
        refine lv_isub hx hb dX5_simpleOf_35 ?_
        cases hm
        subst hQ
        exact W.iret hx hb hr (fun t ht hW => ⟨⟨_, (), rfl, rfl, kb_h hP ht⟩, hS.F ht⟩) hS.2.2 dX5_simpleOf_36
  refine lv_icmp_lt (tgt := 17) hx hb dX5_simpleOf_3 (by decide) (fun c5 => ?_) (fun c5 => ?_)
  · replace hm := ite_t c5 hm
    exact J17  _ _ _ hm hP hS (lv_sub hl [0] rfl)
  · replace hm := ite_f c5 hm
    refine lv_iload_n hx hb dX5_simpleOf_6 rfl (lv_at hl 0 rfl) ?_
    refine lv_bipush (v := (101 : Int32)) hx hb dX5_simpleOf_7 (by decide) ?_
    refine lv_icmp_gt (tgt := 17) hx hb dX5_simpleOf_9 (by decide) (fun c6 => ?_) (fun c6 => ?_)
    · replace hm := ite_t c6 hm
      exact J17  _ _ _ hm hP hS (lv_sub hl [0] rfl)
    · replace hm := ite_f c6 hm
      refine lv_iload_n hx hb dX5_simpleOf_12 rfl (lv_at hl 0 rfl) ?_
      refine lv_bipush (v := (97 : Int32)) hx hb dX5_simpleOf_13 (by decide) ?_
      refine lv_isub hx hb dX5_simpleOf_15 ?_
      cases hm
      subst hQ
      exact W.iret hx hb hr (fun t ht hW => ⟨⟨_, (), rfl, rfl, kb_h hP ht⟩, hS.F ht⟩) hS.2.2 dX5_simpleOf_16
