set_option maxHeartbeats 4000000 in
set_option maxRecDepth 100000 in
theorem c_X2_tellsBehind_k0 (l : Launch) (dC : Nat → ClassId) (dI : Nat → Nat → Nat) (cI cJ cZ cQ : ClassId) (t sz : Nat) (a_th : Nat) (a_left : Nat) (a_left_r0 : Nat) (a_left_r1 : Nat) (a_p1 : Nat) (a_left_r2 : Nat) (a_left_r3 : Nat) (q_row : Value) (v_left_r0 : (Nat → Int32)) (v_left_r1 : (Nat → Int32)) (v_p1_facts : Int32) (v_p1_so : Int32) (v_p1_common : Int32) (v_p1_cases : Int32) (v_p1_firstTrueDay : Int32) (v_left_r2 : (Nat → Int32)) (v_left_r3 : (Nat → Int32)) (p_2 : Int32) (p_4 : Int32) (p_5 : Int32) (p_6 : Int32) (o : Int32 × (Nat → Int32) × (Nat → Int32) × (Nat → Int32)) (hm : m_X2_tellsBehind_k0 p_2 p_4 p_5 p_6 v_left_r0 v_left_r1 v_p1_facts v_left_r2 v_left_r3 = some o) : Met l yX2_tellsBehind wsX2_tellsBehind { frames := 10, cells := 0, slots := 0, locals := 253 } (va_Pc [.ref a_th, .ref a_p1, .int p_2, .int (0 : Int32), .int p_4, .int p_5, .int p_6] (cP (dC, dI) (kT cI cJ cZ cQ) t sz [oX2 a_th (.ref a_left) q_row, aQ cQ a_left 4 (q4 a_left_r0 a_left_r1 a_left_r2 a_left_r3), aI cI a_left_r0 7 v_left_r0, aI cI a_left_r1 7 v_left_r1, oX1 a_p1 (.int v_p1_facts) (.int v_p1_so) (.int v_p1_common) (.int v_p1_cases) (.int v_p1_firstTrueDay), aI cI a_left_r2 7 v_left_r2, aI cI a_left_r3 7 v_left_r3])) (cQi (dC, dI) (va_A [oX2 a_th (.ref a_left) q_row, aQ cQ a_left 4 (q4 a_left_r0 a_left_r1 a_left_r2 a_left_r3), aI cI a_left_r0 7 v_left_r0, aI cI a_left_r1 7 v_left_r1, oX1 a_p1 (.int v_p1_facts) (.int v_p1_so) (.int v_p1_common) (.int v_p1_cases) (.int v_p1_firstTrueDay), aI cI a_left_r2 7 v_left_r2, aI cI a_left_r3 7 v_left_r3] sz) o.1 [oX2 a_th (.ref a_left) q_row, aQ cQ a_left 4 (q4 a_left_r0 a_left_r1 a_left_r2 a_left_r3), aI cI a_left_r0 7 v_left_r0, aI cI a_left_r1 7 (o.2.1), oX1 a_p1 (.int v_p1_facts) (.int v_p1_so) (.int v_p1_common) (.int v_p1_cases) (.int v_p1_firstTrueDay), aI cI a_left_r2 7 (o.2.2.1), aI cI a_left_r3 7 (o.2.2.2)]) 0 0 (va_A [oX2 a_th (.ref a_left) q_row, aQ cQ a_left 4 (q4 a_left_r0 a_left_r1 a_left_r2 a_left_r3), aI cI a_left_r0 7 v_left_r0, aI cI a_left_r1 7 v_left_r1, oX1 a_p1 (.int v_p1_facts) (.int v_p1_so) (.int v_p1_common) (.int v_p1_cases) (.int v_p1_firstTrueDay), aI cI a_left_r2 7 v_left_r2, aI cI a_left_r3 7 v_left_r3] sz) := by
  refine Met.ofW (cc := cX2_tellsBehind) (maxL := 8) (ret := (some .boolean)) (by decide) rfl ?_
  intro p e s m args below meth c s₁ B hml hv
  obtain ⟨rfl, hsz, hP, hK, hD0, hG⟩ := hv
  have hx := B.exec
  have hb := B.bytes
  have hr := B.returns
  have hts := atoms_spec (ws := wsX2_tellsBehind) B.pre
  have hown : s.vm.findClass RX2 = some m.cls := findClass_of_methodNamed B.named
  have hlocks := B.notSynchronized
  subst hsz
  have hD := hD0.self (sz := s.heap.size)
  generalize hAe : va_A [oX2 a_th (.ref a_left) q_row, aQ cQ a_left 4 (q4 a_left_r0 a_left_r1 a_left_r2 a_left_r3), aI cI a_left_r0 7 v_left_r0, aI cI a_left_r1 7 v_left_r1, oX1 a_p1 (.int v_p1_facts) (.int v_p1_so) (.int v_p1_common) (.int v_p1_cases) (.int v_p1_firstTrueDay), aI cI a_left_r2 7 v_left_r2, aI cI a_left_r3 7 v_left_r3] s.heap.size = A at hD hG ⊢
  have hA : ∀ q : Nat, s.heap.size ≤ q → A q := fun q h => by rw [← hAe]; exact Or.inr h
  have hS : va_S A s.heap s.heap [] := va_S.rf
  have hl := lv_entry ([.ref a_th, .ref a_p1, .int p_2, .int (0 : Int32), .int p_4, .int p_5, .int p_6]) (n := 8) (Nat.le_of_ble_eq_true rfl)
  rw [lg_entry_eq]
  generalize (lg_sl ([.ref a_th, .ref a_p1, .int p_2, .int (0 : Int32), .int p_4, .int p_5, .int p_6]) ++ List.replicate (8 - (lg_sl ([.ref a_th, .ref a_p1, .int p_2, .int (0 : Int32), .int p_4, .int p_5, .int p_6])).length) Slot.unset).toArray = ls at hl ⊢
  have hl : lv_has ls 8 [(0, .ref a_th), (1, .ref a_p1), (2, .int p_2), (3, .int (0 : Int32)), (4, .int p_4), (5, .int p_5), (6, .int p_6)] := hl
  have iX2 : ∀ w ∈ wsX20, w ∈ wsX2_tellsBehind := fun _ h => List.mem_cons_of_mem _ (List.mem_append_left _ (List.mem_append_right _ h))
  have iX1 : ∀ w ∈ wsX10, w ∈ wsX2_tellsBehind := fun _ h => List.mem_cons_of_mem _ (List.mem_append_right _ h)
  have f11 := hts (.fieldLink RX2 11 "TrueOnceWeek$Foresight" "left" "[[I") (by decide +kernel)
  refine kb_gen (fun Q hQ => ?_)
  unfold m_X2_tellsBehind_k0 at hm
  refine lv_iload_n hx hb dX2_tellsBehind_0 rfl (lv_at hl 3 rfl) ?_
  refine lv_if_lt (tgt := 9) hx hb dX2_tellsBehind_1 (by decide) (fun c1 => ?_) (fun c1 => ?_)
  · exact absurd c1 (by decide)
  refine lv_iload_n hx hb dX2_tellsBehind_4 rfl (lv_at hl 3 rfl) ?_
  refine lv_iconst (v := (3 : Int32)) hx hb dX2_tellsBehind_5 (by decide) ?_
  refine lv_icmp_lt (tgt := 11) hx hb dX2_tellsBehind_6 (by decide) (fun c2 => ?_) (fun c2 => ?_)
  rotate_left
  · exact absurd (by decide) c2
  refine lv_iconst (v := (0 : Int32)) hx hb dX2_tellsBehind_11 (by decide) ?_
  refine lv_istore (lv' := [(7, .int (0 : Int32)), (0, .ref a_th), (1, .ref a_p1), (2, .int p_2), (3, .int (0 : Int32)), (4, .int p_4), (5, .int p_5), (6, .int p_6)]) hx hb dX2_tellsBehind_12 hl (by decide) rfl (fun ls hl => ?_)
  have lp14 : ∀ (n14 : Nat) (x3 : Int32) (w4 : (Nat → Int32)) (w5 : (Nat → Int32)) (w6 : (Nat → Int32)) (k14 : (Nat → Int32) → (Nat → Int32) → (Nat → Int32) → Option (Int32 × (Nat → Int32) × (Nat → Int32) × (Nat → Int32))) (H : Heap) (locs : List Loc) (ls : Array Slot), L_X2_tellsBehind_k0_14 v_left_r0 v_p1_facts p_2 p_4 p_5 p_6 n14 x3 w4 w5 w6 k14 = some o → (∀ (w7 : (Nat → Int32)) (w8 : (Nat → Int32)) (w9 : (Nat → Int32)) (H : Heap) (locs : List Loc) (ls : Array Slot), k14 w7 w8 w9 = some o → va_P (dC, dI) vwCl [oX2 a_th (.ref a_left) q_row, aQ cQ a_left 4 (q4 a_left_r0 a_left_r1 a_left_r2 a_left_r3), aI cI a_left_r0 7 v_left_r0, aI cI a_left_r1 7 w7, oX1 a_p1 (.int v_p1_facts) (.int v_p1_so) (.int v_p1_common) (.int v_p1_cases) (.int v_p1_firstTrueDay), aI cI a_left_r2 7 w8, aI cI a_left_r3 7 w9] H → va_S A s.heap H locs → lv_has ls 8 [] → W p l e (headSpec wsX2_tellsBehind { frames := 10, cells := 0, slots := 0, locals := 253 }).room s m [.ref a_th, .ref a_p1, .int p_2, .int (0 : Int32), .int p_4, .int p_5, .int p_6].toArray below meth c H locs 0 0 Q (F0 m 74 ls [])) → va_P (dC, dI) vwCl [oX2 a_th (.ref a_left) q_row, aQ cQ a_left 4 (q4 a_left_r0 a_left_r1 a_left_r2 a_left_r3), aI cI a_left_r0 7 v_left_r0, aI cI a_left_r1 7 w4, oX1 a_p1 (.int v_p1_facts) (.int v_p1_so) (.int v_p1_common) (.int v_p1_cases) (.int v_p1_firstTrueDay), aI cI a_left_r2 7 w5, aI cI a_left_r3 7 w6] H → va_S A s.heap H locs → lv_has ls 8 [(0, .ref a_th), (1, .ref a_p1), (2, .int p_2), (3, .int (0 : Int32)), (4, .int p_4), (5, .int p_5), (6, .int p_6), (7, .int x3)] → W p l e (headSpec wsX2_tellsBehind { frames := 10, cells := 0, slots := 0, locals := 253 }).room s m [.ref a_th, .ref a_p1, .int p_2, .int (0 : Int32), .int p_4, .int p_5, .int p_6].toArray below meth c H locs 0 0 Q (F0 m 14 ls []) := by
    intro n14
    induction n14 with
    | zero =>
      intro x3 w4 w5 w6 k14 H locs ls hm
      cases (show (none : Option (Int32 × (Nat → Int32) × (Nat → Int32) × (Nat → Int32))) = some o from hm)
    | succ n14 ih14 =>
      intro x3 w4 w5 w6 k14 H locs ls hm hk14 hP hS hl
      rw [L_X2_tellsBehind_k0_14.eq_2] at hm
      refine lv_iload hx hb dX2_tellsBehind_14 (lv_at hl 7 rfl) ?_
      refine lv_iconst (v := (3 : Int32)) hx hb dX2_tellsBehind_16 (by decide) ?_
      refine lv_icmp_ge (tgt := 74) hx hb dX2_tellsBehind_17 (by decide) (fun c10 => ?_) (fun c10 => ?_)
      · replace hm := ite_t c10 hm
        exact hk14 w4 w5 w6 _ _ _ hm hP hS (lv_sub hl [] rfl)
      · replace hm := ite_f c10 hm
        refine lv_aload_n hx hb dX2_tellsBehind_20 rfl (lv_at hl 0 rfl) ?_
        refine va_get (D := (dC, dI)) (ci := 2) (v := .ref a_left) (C := RX2) (T := TX2) (N := 2) hx hb hts iX2 hown hK hP 0 rfl rfl 0 (by decide) f11 (fun _ h9 => h9) rfl dX2_tellsBehind_21 ?_
        refine lv_iload_n hx hb dX2_tellsBehind_24 rfl (lv_at hl 3 rfl) ?_
        refine kb_aald (y := a_left_r0) hx hb hK hP 1 3 rfl rfl (inB_s (by decide)) rfl dX2_tellsBehind_25 ?_
        refine lv_aload_n hx hb dX2_tellsBehind_26 rfl (lv_at hl 0 rfl) ?_
        refine va_get (D := (dC, dI)) (ci := 2) (v := .ref a_left) (C := RX2) (T := TX2) (N := 2) hx hb hts iX2 hown hK hP 0 rfl rfl 0 (by decide) f11 (fun _ h9 => h9) rfl dX2_tellsBehind_27 ?_
        refine lv_iload_n hx hb dX2_tellsBehind_30 rfl (lv_at hl 3 rfl) ?_
        refine lv_iconst (v := (1 : Int32)) hx hb dX2_tellsBehind_31 (by decide) ?_
        refine lv_iadd hx hb dX2_tellsBehind_32 ?_
        refine lv_topi (fun z11 ez11 => ?_)
        obtain rfl : z11 = (1 : Int32) := ez11.trans (by decide)
        refine kb_aald (y := a_left_r1) hx hb hK hP 1 3 rfl rfl (inB_s (by decide)) rfl dX2_tellsBehind_33 ?_
        refine lv_iload_n hx hb dX2_tellsBehind_34 rfl (lv_at hl 2 rfl) ?_
        refine lv_iload hx hb dX2_tellsBehind_35 (lv_at hl 7 rfl) ?_
        refine lv_iload hx hb dX2_tellsBehind_37 (lv_at hl 6 rfl) ?_
        refine lv_bipush (v := (7 : Int32)) hx hb dX2_tellsBehind_39 (by decide) ?_
        refine lv_irem hx hb dX2_tellsBehind_41 (by decide) ?_
        obtain ⟨w12, ho13, hm⟩ := bd1_s hm
        refine kb_callv (va_runS (As := [.ref a_left_r0, .ref a_left_r1, .int p_2, .int x3, .int (p_6 - p_6 / (7 : Int32) * (7 : Int32))]) (rest := []) ⟨hx, hb, hml, hown, hts⟩ (c_X8_narrow l dC dI cI cJ cZ cQ t H.size a_left_r0 a_left_r1 7 7 v_left_r0 w4 p_2 x3 (p_6 - p_6 / (7 : Int32) * (7 : Int32)) (w12) ho13) (va_cwS 5 hts gX2_tellsBehind_X8_narrow rfl rfl rfl (by decide +kernel) ⟨(Nat.le_of_ble_eq_true rfl), (Nat.le_of_ble_eq_true rfl)⟩) (kb_pre hK hG hP (kb_D hD rfl) hS hA [2, 3] rfl (by decide)) rfl rfl hl.1 rfl (lv_room (Nat.le_of_ble_eq_true rfl)) dX2_tellsBehind_42 ⟨Nat.zero_le _, Nat.zero_le _⟩) hP (kb_D hD rfl) hS hA [2, 3] rfl [(false, 0), (false, 1), (true, 0), (true, 1), (false, 4), (false, 5), (false, 6)] (w2 := [oX2 a_th (.ref a_left) q_row, aQ cQ a_left 4 (q4 a_left_r0 a_left_r1 a_left_r2 a_left_r3), aI cI a_left_r0 7 v_left_r0, aI cI a_left_r1 7 w12, oX1 a_p1 (.int v_p1_facts) (.int v_p1_so) (.int v_p1_common) (.int v_p1_cases) (.int v_p1_firstTrueDay), aI cI a_left_r2 7 w5, aI cI a_left_r3 7 w6]) rfl (by decide) (fun H locs hP hS => ?_)
        refine lv_aload_n hx hb dX2_tellsBehind_45 rfl (lv_at hl 0 rfl) ?_
        refine lv_aload_n hx hb dX2_tellsBehind_46 rfl (lv_at hl 1 rfl) ?_
        refine lv_iload_n hx hb dX2_tellsBehind_47 rfl (lv_at hl 3 rfl) ?_
        refine lv_iconst (v := (1 : Int32)) hx hb dX2_tellsBehind_48 (by decide) ?_
        refine lv_iadd hx hb dX2_tellsBehind_49 ?_
        refine lv_topi (fun z14 ez14 => ?_)
        obtain rfl : z14 = (1 : Int32) := ez14.trans (by decide)
        refine lv_iload hx hb dX2_tellsBehind_50 (lv_at hl 4 rfl) ?_
        refine lv_iconst (v := (1 : Int32)) hx hb dX2_tellsBehind_52 (by decide) ?_
        refine lv_isub hx hb dX2_tellsBehind_53 ?_
        refine lv_iload hx hb dX2_tellsBehind_54 (lv_at hl 5 rfl) ?_
        refine lv_iload hx hb dX2_tellsBehind_56 (lv_at hl 6 rfl) ?_
        refine lv_iconst (v := (1 : Int32)) hx hb dX2_tellsBehind_58 (by decide) ?_
        refine lv_iadd hx hb dX2_tellsBehind_59 ?_
        obtain ⟨r15, w16, w17, ho18, hm⟩ := bd3_s hm
        refine kb_calli (Rv := r15) (va_runV (As := [.ref a_p1, .int (1 : Int32), .int (p_4 - (1 : Int32)), .int p_5, .int (p_6 + (1 : Int32))]) (rest := []) ⟨hx, hb, hml, hown, hts⟩ (c_X2_isToldIn_k1 l dC dI cI cJ cZ cQ t H.size a_th a_left a_left_r1 a_p1 a_left_r2 a_left_r3 a_left_r0 q_row w12 v_p1_facts v_p1_so v_p1_common v_p1_cases v_p1_firstTrueDay w5 w6 (p_4 - (1 : Int32)) p_5 (p_6 + (1 : Int32)) (r15, w16, w17) ho18) (cwV 5 hts gX2_tellsBehind_X2_isToldIn rfl rfl rfl (by decide +kernel) ⟨(Nat.le_of_ble_eq_true rfl), (Nat.le_of_ble_eq_true rfl)⟩) ⟨(kb_pre hK hG hP (kb_D hD rfl) hS hA [0, 1, 3, 4, 5, 6] rfl (by decide)).1, (va_recv hK hP (ci := 2) (q0 := 0) rfl rfl), (kb_pre hK hG hP (kb_D hD rfl) hS hA [0, 1, 3, 4, 5, 6] rfl (by decide)).2⟩ rfl rfl hl.1 rfl (lv_room (Nat.le_of_ble_eq_true rfl)) dX2_tellsBehind_60 ⟨Nat.zero_le _, Nat.zero_le _⟩) hP (kb_D hD rfl) hS hA [0, 1, 3, 4, 5, 6] rfl [(true, 0), (true, 1), (false, 2), (true, 2), (true, 3), (true, 4), (true, 5)] (w2 := [oX2 a_th (.ref a_left) q_row, aQ cQ a_left 4 (q4 a_left_r0 a_left_r1 a_left_r2 a_left_r3), aI cI a_left_r0 7 v_left_r0, aI cI a_left_r1 7 w12, oX1 a_p1 (.int v_p1_facts) (.int v_p1_so) (.int v_p1_common) (.int v_p1_cases) (.int v_p1_firstTrueDay), aI cI a_left_r2 7 w16, aI cI a_left_r3 7 w17]) rfl (by decide) (fun H locs hP hS => ?_)
        refine lv_if_ne (tgt := 68) hx hb dX2_tellsBehind_63 (by decide) (fun c19 => ?_) (fun c19 => ?_)
        · replace hm := ite_f c19 hm
          obtain ⟨x20, ex20⟩ : ∃ y : Int32, y = x3 + (1 : Int32) := ⟨_, rfl⟩
          replace hm := nm_t ex20 hm
          refine lv_iinc (v := x20) (lv' := [(7, .int x20), (0, .ref a_th), (1, .ref a_p1), (2, .int p_2), (3, .int (0 : Int32)), (4, .int p_4), (5, .int p_5), (6, .int p_6)]) hx hb dX2_tellsBehind_68 hl (k := 7) rfl (by rw [ex20]; rfl) (by decide) rfl (fun ls hl => ?_)
          refine lv_goto (tgt := 14) hx hb dX2_tellsBehind_71 (by decide) ?_
          exact ih14 x20 w12 w16 w17 k14 _ _ _ hm hk14 hP hS (lv_sub hl [1, 2, 3, 4, 5, 6, 7, 0] rfl)
        · replace hm := ite_t c19 hm
          refine lv_iconst (v := (0 : Int32)) hx hb dX2_tellsBehind_66 (by decide) ?_
          obtain rfl := Option.some.inj hm
          subst hQ
          exact W.zret hx hb hr rfl (fun t ht hW => ⟨⟨_, (), rfl, rfl, kb_h hP ht⟩, hS.F ht⟩) hS.2.2 dX2_tellsBehind_67
  refine lp14 1024 (0 : Int32) v_left_r1 v_left_r2 v_left_r3 _ _ _ _ hm (fun w7 w8 w9 H locs ls hm hP hS hl => ?_) hP hS (lv_sub hl [1, 2, 3, 4, 5, 6, 7, 0] rfl)
  refine lv_iconst (v := (1 : Int32)) hx hb dX2_tellsBehind_74 (by decide) ?_
  obtain rfl := Option.some.inj hm
  subst hQ
  exact W.zret hx hb hr rfl (fun t ht hW => ⟨⟨_, (), rfl, rfl, kb_h hP ht⟩, hS.F ht⟩) hS.2.2 dX2_tellsBehind_75
set_option maxHeartbeats 4000000 in
set_option maxRecDepth 100000 in
theorem c_X2_leastThatTells_k0 (l : Launch) (dC : Nat → ClassId) (dI : Nat → Nat → Nat) (cI cJ cZ cQ : ClassId) (t sz : Nat) (a_th : Nat) (a_p1 : Nat) (a_left : Nat) (a_left_r0 : Nat) (a_left_r1 : Nat) (a_left_r2 : Nat) (a_left_r3 : Nat) (q_row : Value) (v_p1_facts : Int32) (v_p1_so : Int32) (v_p1_common : Int32) (v_p1_cases : Int32) (v_p1_firstTrueDay : Int32) (v_left_r0 : (Nat → Int32)) (v_left_r1 : (Nat → Int32)) (v_left_r2 : (Nat → Int32)) (v_left_r3 : (Nat → Int32)) (p_3 : Int32) (p_4 : Int32) (p_5 : Int32) (o : Int32 × (Nat → Int32) × (Nat → Int32) × (Nat → Int32)) (hm : m_X2_leastThatTells_k0 p_3 p_4 p_5 v_p1_facts v_left_r0 v_left_r1 v_left_r2 v_left_r3 = some o) : Met l yX2_leastThatTells wsX2_leastThatTells { frames := 11, cells := 0, slots := 0, locals := 280 } (va_Pc [.ref a_th, .ref a_p1, .int (0 : Int32), .int p_3, .int p_4, .int p_5] (cP (dC, dI) (kT cI cJ cZ cQ) t sz [oX2 a_th (.ref a_left) q_row, oX1 a_p1 (.int v_p1_facts) (.int v_p1_so) (.int v_p1_common) (.int v_p1_cases) (.int v_p1_firstTrueDay), aQ cQ a_left 4 (q4 a_left_r0 a_left_r1 a_left_r2 a_left_r3), aI cI a_left_r0 7 v_left_r0, aI cI a_left_r1 7 v_left_r1, aI cI a_left_r2 7 v_left_r2, aI cI a_left_r3 7 v_left_r3])) (cQi (dC, dI) (va_A [oX2 a_th (.ref a_left) q_row, oX1 a_p1 (.int v_p1_facts) (.int v_p1_so) (.int v_p1_common) (.int v_p1_cases) (.int v_p1_firstTrueDay), aQ cQ a_left 4 (q4 a_left_r0 a_left_r1 a_left_r2 a_left_r3), aI cI a_left_r0 7 v_left_r0, aI cI a_left_r1 7 v_left_r1, aI cI a_left_r2 7 v_left_r2, aI cI a_left_r3 7 v_left_r3] sz) o.1 [oX2 a_th (.ref a_left) q_row, oX1 a_p1 (.int v_p1_facts) (.int v_p1_so) (.int v_p1_common) (.int v_p1_cases) (.int v_p1_firstTrueDay), aQ cQ a_left 4 (q4 a_left_r0 a_left_r1 a_left_r2 a_left_r3), aI cI a_left_r0 7 v_left_r0, aI cI a_left_r1 7 (o.2.1), aI cI a_left_r2 7 (o.2.2.1), aI cI a_left_r3 7 (o.2.2.2)]) 0 0 (va_A [oX2 a_th (.ref a_left) q_row, oX1 a_p1 (.int v_p1_facts) (.int v_p1_so) (.int v_p1_common) (.int v_p1_cases) (.int v_p1_firstTrueDay), aQ cQ a_left 4 (q4 a_left_r0 a_left_r1 a_left_r2 a_left_r3), aI cI a_left_r0 7 v_left_r0, aI cI a_left_r1 7 v_left_r1, aI cI a_left_r2 7 v_left_r2, aI cI a_left_r3 7 v_left_r3] sz) := by
  refine Met.ofW (cc := cX2_leastThatTells) (maxL := 7) (ret := (some .int)) (by decide) rfl ?_
  intro p e s m args below meth c s₁ B hml hv
  obtain ⟨rfl, hsz, hP, hK, hD0, hG⟩ := hv
  have hx := B.exec
  have hb := B.bytes
  have hr := B.returns
  have hts := atoms_spec (ws := wsX2_leastThatTells) B.pre
  have hown : s.vm.findClass RX2 = some m.cls := findClass_of_methodNamed B.named
  have hlocks := B.notSynchronized
  subst hsz
  have hD := hD0.self (sz := s.heap.size)
  generalize hAe : va_A [oX2 a_th (.ref a_left) q_row, oX1 a_p1 (.int v_p1_facts) (.int v_p1_so) (.int v_p1_common) (.int v_p1_cases) (.int v_p1_firstTrueDay), aQ cQ a_left 4 (q4 a_left_r0 a_left_r1 a_left_r2 a_left_r3), aI cI a_left_r0 7 v_left_r0, aI cI a_left_r1 7 v_left_r1, aI cI a_left_r2 7 v_left_r2, aI cI a_left_r3 7 v_left_r3] s.heap.size = A at hD hG ⊢
  have hA : ∀ q : Nat, s.heap.size ≤ q → A q := fun q h => by rw [← hAe]; exact Or.inr h
  have hS : va_S A s.heap s.heap [] := va_S.rf
  have hl := lv_entry ([.ref a_th, .ref a_p1, .int (0 : Int32), .int p_3, .int p_4, .int p_5]) (n := 7) (Nat.le_of_ble_eq_true rfl)
  rw [lg_entry_eq]
  generalize (lg_sl ([.ref a_th, .ref a_p1, .int (0 : Int32), .int p_3, .int p_4, .int p_5]) ++ List.replicate (7 - (lg_sl ([.ref a_th, .ref a_p1, .int (0 : Int32), .int p_3, .int p_4, .int p_5])).length) Slot.unset).toArray = ls at hl ⊢
  have hl : lv_has ls 7 [(0, .ref a_th), (1, .ref a_p1), (2, .int (0 : Int32)), (3, .int p_3), (4, .int p_4), (5, .int p_5)] := hl
  have iX2 : ∀ w ∈ wsX20, w ∈ wsX2_leastThatTells := fun _ h => List.mem_cons_of_mem _ (List.mem_append_left _ (List.mem_append_right _ h))
  have iX1 : ∀ w ∈ wsX10, w ∈ wsX2_leastThatTells := fun _ h => List.mem_cons_of_mem _ (List.mem_append_right _ h)
  refine kb_gen (fun Q hQ => ?_)
  unfold m_X2_leastThatTells_k0 at hm
  refine lv_iconst (v := (0 : Int32)) hx hb dX2_leastThatTells_0 (by decide) ?_
  refine lv_istore (lv' := [(6, .int (0 : Int32)), (0, .ref a_th), (1, .ref a_p1), (2, .int (0 : Int32)), (3, .int p_3), (4, .int p_4), (5, .int p_5)]) hx hb dX2_leastThatTells_1 hl (by decide) rfl (fun ls hl => ?_)
  have lp3 : ∀ (n3 : Nat) (x1 : Int32) (w2 : (Nat → Int32)) (w3 : (Nat → Int32)) (w4 : (Nat → Int32)) (k3 : (Nat → Int32) → (Nat → Int32) → (Nat → Int32) → Option (Int32 × (Nat → Int32) × (Nat → Int32) × (Nat → Int32))) (H : Heap) (locs : List Loc) (ls : Array Slot), L_X2_leastThatTells_k0_3 v_p1_facts v_left_r0 p_3 p_4 p_5 n3 x1 w2 w3 w4 k3 = some o → (∀ (w5 : (Nat → Int32)) (w6 : (Nat → Int32)) (w7 : (Nat → Int32)) (H : Heap) (locs : List Loc) (ls : Array Slot), k3 w5 w6 w7 = some o → va_P (dC, dI) vwCl [oX2 a_th (.ref a_left) q_row, oX1 a_p1 (.int v_p1_facts) (.int v_p1_so) (.int v_p1_common) (.int v_p1_cases) (.int v_p1_firstTrueDay), aQ cQ a_left 4 (q4 a_left_r0 a_left_r1 a_left_r2 a_left_r3), aI cI a_left_r0 7 v_left_r0, aI cI a_left_r1 7 w5, aI cI a_left_r2 7 w6, aI cI a_left_r3 7 w7] H → va_S A s.heap H locs → lv_has ls 7 [] → W p l e (headSpec wsX2_leastThatTells { frames := 11, cells := 0, slots := 0, locals := 280 }).room s m [.ref a_th, .ref a_p1, .int (0 : Int32), .int p_3, .int p_4, .int p_5].toArray below meth c H locs 0 0 Q (F0 m 44 ls [])) → va_P (dC, dI) vwCl [oX2 a_th (.ref a_left) q_row, oX1 a_p1 (.int v_p1_facts) (.int v_p1_so) (.int v_p1_common) (.int v_p1_cases) (.int v_p1_firstTrueDay), aQ cQ a_left 4 (q4 a_left_r0 a_left_r1 a_left_r2 a_left_r3), aI cI a_left_r0 7 v_left_r0, aI cI a_left_r1 7 w2, aI cI a_left_r2 7 w3, aI cI a_left_r3 7 w4] H → va_S A s.heap H locs → lv_has ls 7 [(0, .ref a_th), (1, .ref a_p1), (2, .int (0 : Int32)), (3, .int p_3), (4, .int p_4), (5, .int p_5), (6, .int x1)] → W p l e (headSpec wsX2_leastThatTells { frames := 11, cells := 0, slots := 0, locals := 280 }).room s m [.ref a_th, .ref a_p1, .int (0 : Int32), .int p_3, .int p_4, .int p_5].toArray below meth c H locs 0 0 Q (F0 m 3 ls []) := by
    intro n3
    induction n3 with
    | zero =>
      intro x1 w2 w3 w4 k3 H locs ls hm
      cases (show (none : Option (Int32 × (Nat → Int32) × (Nat → Int32) × (Nat → Int32))) = some o from hm)
    | succ n3 ih3 =>
      intro x1 w2 w3 w4 k3 H locs ls hm hk3 hP hS hl
      rw [L_X2_leastThatTells_k0_3.eq_2] at hm
      refine lv_iload hx hb dX2_leastThatTells_3 (lv_at hl 6 rfl) ?_
      refine lv_bipush (v := (19 : Int32)) hx hb dX2_leastThatTells_5 (by decide) ?_
      refine lv_icmp_ge (tgt := 44) hx hb dX2_leastThatTells_7 (by decide) (fun c8 => ?_) (fun c8 => ?_)
      · replace hm := ite_t c8 hm
        exact hk3 w2 w3 w4 _ _ _ hm hP hS (lv_sub hl [] rfl)
      · replace hm := ite_f c8 hm
        refine lv_aload_n hx hb dX2_leastThatTells_10 rfl (lv_at hl 1 rfl) ?_
        refine lv_iload hx hb dX2_leastThatTells_11 (lv_at hl 6 rfl) ?_
        obtain ⟨r9, ho10, hm⟩ := bd1_s hm
        refine kb_calli (Rv := r9) (va_runV (As := [.int x1]) (rest := []) ⟨hx, hb, hml, hown, hts⟩ (c_X1_hasSimple l dC dI cI cJ cZ cQ t H.size a_p1 v_p1_facts v_p1_so v_p1_common v_p1_cases v_p1_firstTrueDay x1 (r9) ho10) (cwV 1 hts gX2_leastThatTells_X1_hasSimple rfl rfl rfl (by decide +kernel) ⟨(Nat.le_of_ble_eq_true rfl), (Nat.le_of_ble_eq_true rfl)⟩) ⟨(kb_pre hK hG hP (kb_D hD rfl) hS hA [1] rfl (by decide)).1, (va_recv hK hP (ci := 1) (q0 := 1) rfl rfl), (kb_pre hK hG hP (kb_D hD rfl) hS hA [1] rfl (by decide)).2⟩ rfl rfl hl.1 rfl (lv_room (Nat.le_of_ble_eq_true rfl)) dX2_leastThatTells_13 ⟨Nat.zero_le _, Nat.zero_le _⟩) hP (kb_D hD rfl) hS hA [1] rfl [(false, 0), (true, 0), (false, 2), (false, 3), (false, 4), (false, 5), (false, 6)] (w2 := [oX2 a_th (.ref a_left) q_row, oX1 a_p1 (.int v_p1_facts) (.int v_p1_so) (.int v_p1_common) (.int v_p1_cases) (.int v_p1_firstTrueDay), aQ cQ a_left 4 (q4 a_left_r0 a_left_r1 a_left_r2 a_left_r3), aI cI a_left_r0 7 v_left_r0, aI cI a_left_r1 7 w2, aI cI a_left_r2 7 w3, aI cI a_left_r3 7 w4]) rfl (by decide) (fun H locs hP hS => ?_)
        obtain ⟨k38, ek38, hm⟩ := nm_s hm
        have J38 : ∀ (w11 : (Nat → Int32)) (w12 : (Nat → Int32)) (w13 : (Nat → Int32)) (H : Heap) (locs : List Loc) (ls : Array Slot), k38 w11 w12 w13 = some o → va_P (dC, dI) vwCl [oX2 a_th (.ref a_left) q_row, oX1 a_p1 (.int v_p1_facts) (.int v_p1_so) (.int v_p1_common) (.int v_p1_cases) (.int v_p1_firstTrueDay), aQ cQ a_left 4 (q4 a_left_r0 a_left_r1 a_left_r2 a_left_r3), aI cI a_left_r0 7 v_left_r0, aI cI a_left_r1 7 w11, aI cI a_left_r2 7 w12, aI cI a_left_r3 7 w13] H → va_S A s.heap H locs → lv_has ls 7 [(0, .ref a_th), (1, .ref a_p1), (2, .int (0 : Int32)), (3, .int p_3), (4, .int p_4), (5, .int p_5), (6, .int x1)] → W p l e (headSpec wsX2_leastThatTells { frames := 11, cells := 0, slots := 0, locals := 280 }).room s m [.ref a_th, .ref a_p1, .int (0 : Int32), .int p_3, .int p_4, .int p_5].toArray below meth c H locs 0 0 Q (F0 m 38 ls []) := by
          intro w11 w12 w13 H locs ls hm hP hS hl
          rw [ek38] at hm
          obtain ⟨x14, ex14⟩ : ∃ y : Int32, y = x1 + (1 : Int32) := ⟨_, rfl⟩
          replace hm := nm_t ex14 hm
          refine lv_iinc (v := x14) (lv' := [(6, .int x14), (0, .ref a_th), (1, .ref a_p1), (2, .int (0 : Int32)), (3, .int p_3), (4, .int p_4), (5, .int p_5)]) hx hb dX2_leastThatTells_38 hl (k := 6) rfl (by rw [ex14]; rfl) (by decide) rfl (fun ls hl => ?_)
          refine lv_goto (tgt := 3) hx hb dX2_leastThatTells_41 (by decide) ?_
          exact ih3 x14 w11 w12 w13 k3 _ _ _ hm hk3 hP hS (lv_sub hl [1, 2, 3, 4, 5, 6, 0] rfl)
        refine lv_if_eq (tgt := 38) hx hb dX2_leastThatTells_16 (by decide) (fun c15 => ?_) (fun c15 => ?_)
        · replace hm := ite_t c15 hm
          exact J38 w2 w3 w4 _ _ _ hm hP hS (lv_sub hl [0, 1, 2, 3, 4, 5, 6] rfl)
        · replace hm := ite_f c15 hm
          refine lv_aload_n hx hb dX2_leastThatTells_19 rfl (lv_at hl 0 rfl) ?_
          refine lv_aload_n hx hb dX2_leastThatTells_20 rfl (lv_at hl 1 rfl) ?_
          refine lv_iload hx hb dX2_leastThatTells_21 (lv_at hl 6 rfl) ?_
          refine lv_iload_n hx hb dX2_leastThatTells_23 rfl (lv_at hl 2 rfl) ?_
          refine lv_iload_n hx hb dX2_leastThatTells_24 rfl (lv_at hl 3 rfl) ?_
          refine lv_iload hx hb dX2_leastThatTells_25 (lv_at hl 4 rfl) ?_
          refine lv_iload hx hb dX2_leastThatTells_27 (lv_at hl 5 rfl) ?_
          obtain ⟨r16, w17, w18, w19, ho20, hm⟩ := bd4_s hm
          refine kb_calli (Rv := r16) (va_runV (As := [.ref a_p1, .int x1, .int (0 : Int32), .int p_3, .int p_4, .int p_5]) (rest := []) ⟨hx, hb, hml, hown, hts⟩ (c_X2_tellsBehind_k0 l dC dI cI cJ cZ cQ t H.size a_th a_left a_left_r0 a_left_r1 a_p1 a_left_r2 a_left_r3 q_row v_left_r0 w2 v_p1_facts v_p1_so v_p1_common v_p1_cases v_p1_firstTrueDay w3 w4 x1 p_3 p_4 p_5 (r16, w17, w18, w19) ho20) (cwV 6 hts gX2_leastThatTells_X2_tellsBehind rfl rfl rfl (by decide +kernel) ⟨(Nat.le_of_ble_eq_true rfl), (Nat.le_of_ble_eq_true rfl)⟩) ⟨(kb_pre hK hG hP (kb_D hD rfl) hS hA [0, 2, 3, 4, 1, 5, 6] rfl (by decide)).1, (va_recv hK hP (ci := 2) (q0 := 0) rfl rfl), (kb_pre hK hG hP (kb_D hD rfl) hS hA [0, 2, 3, 4, 1, 5, 6] rfl (by decide)).2⟩ rfl rfl hl.1 rfl (lv_room (Nat.le_of_ble_eq_true rfl)) dX2_leastThatTells_29 ⟨Nat.zero_le _, Nat.zero_le _⟩) hP (kb_D hD rfl) hS hA [0, 2, 3, 4, 1, 5, 6] rfl [(true, 0), (true, 4), (true, 1), (true, 2), (true, 3), (true, 5), (true, 6)] (w2 := [oX2 a_th (.ref a_left) q_row, oX1 a_p1 (.int v_p1_facts) (.int v_p1_so) (.int v_p1_common) (.int v_p1_cases) (.int v_p1_firstTrueDay), aQ cQ a_left 4 (q4 a_left_r0 a_left_r1 a_left_r2 a_left_r3), aI cI a_left_r0 7 v_left_r0, aI cI a_left_r1 7 w17, aI cI a_left_r2 7 w18, aI cI a_left_r3 7 w19]) rfl (by decide) (fun H locs hP hS => ?_)
          refine lv_if_eq (tgt := 38) hx hb dX2_leastThatTells_32 (by decide) (fun c21 => ?_) (fun c21 => ?_)
          · replace hm := ite_t c21 hm
            exact J38 w17 w18 w19 _ _ _ hm hP hS (lv_sub hl [0, 1, 2, 3, 4, 5, 6] rfl)
          · replace hm := ite_f c21 hm
            refine lv_iload hx hb dX2_leastThatTells_35 (lv_at hl 6 rfl) ?_
            obtain rfl := Option.some.inj hm
            subst hQ
            exact W.iret hx hb hr (fun t ht hW => ⟨⟨_, (), rfl, rfl, kb_h hP ht⟩, hS.F ht⟩) hS.2.2 dX2_leastThatTells_37
  refine lp3 1024 (0 : Int32) v_left_r1 v_left_r2 v_left_r3 _ _ _ _ hm (fun w5 w6 w7 H locs ls hm hP hS hl => ?_) hP hS (lv_sub hl [1, 2, 3, 4, 5, 6, 0] rfl)
  refine lv_bipush (v := (-9 : Int32)) hx hb dX2_leastThatTells_44 (by decide) ?_
  obtain rfl := Option.some.inj hm
  subst hQ
  exact W.iret hx hb hr (fun t ht hW => ⟨⟨_, (), rfl, rfl, kb_h hP ht⟩, hS.F ht⟩) hS.2.2 dX2_leastThatTells_46
set_option maxHeartbeats 4000000 in
set_option maxRecDepth 100000 in
theorem c_X2_firstToAsk (l : Launch) (dC : Nat → ClassId) (dI : Nat → Nat → Nat) (cI cJ cZ cQ : ClassId) (t sz : Nat) (a_th : Nat) (a_p1 : Nat) (a_left : Nat) (a_p1_known : Nat) (a_left_r0 : Nat) (a_p2 : Nat) (a_left_r1 : Nat) (a_left_r2 : Nat) (a_left_r3 : Nat) (q_row : Value) (v_p1_date : Int32) (v_p1_trueDay : Int32) (v_p1_wasAsked : Int32) (v_p1_clothState : Int32) (v_p1_cracks : Int32) (v_p1_known : (Nat → Int32)) (v_left_r0 : (Nat → Int32)) (v_p2_facts : Int32) (v_p2_so : Int32) (v_p2_common : Int32) (v_p2_cases : Int32) (v_p2_firstTrueDay : Int32) (v_left_r1 : (Nat → Int32)) (v_left_r2 : (Nat → Int32)) (v_left_r3 : (Nat → Int32)) (p_3 : Int32) (p_4 : Int32) (o : Int32 × (Nat → Int32) × (Nat → Int32) × (Nat → Int32) × (Nat → Int32)) (hm : m_X2_firstToAsk p_3 p_4 v_p1_date v_p1_known v_left_r0 v_p2_facts v_left_r1 v_left_r2 v_left_r3 = some o) : Met l yX2_firstToAsk wsX2_firstToAsk { frames := 12, cells := 0, slots := 0, locals := 306 } (va_Pc [.ref a_th, .ref a_p1, .ref a_p2, .int p_3, .int p_4] (cP (dC, dI) (kT cI cJ cZ cQ) t sz [oX2 a_th (.ref a_left) q_row, oX4 a_p1 (.int v_p1_date) (.int v_p1_trueDay) (.int v_p1_wasAsked) (.int v_p1_clothState) (.int v_p1_cracks) (.ref a_p1_known), aQ cQ a_left 4 (q4 a_left_r0 a_left_r1 a_left_r2 a_left_r3), aI cI a_p1_known 7 v_p1_known, aI cI a_left_r0 7 v_left_r0, oX1 a_p2 (.int v_p2_facts) (.int v_p2_so) (.int v_p2_common) (.int v_p2_cases) (.int v_p2_firstTrueDay), aI cI a_left_r1 7 v_left_r1, aI cI a_left_r2 7 v_left_r2, aI cI a_left_r3 7 v_left_r3])) (cQi (dC, dI) (va_A [oX2 a_th (.ref a_left) q_row, oX4 a_p1 (.int v_p1_date) (.int v_p1_trueDay) (.int v_p1_wasAsked) (.int v_p1_clothState) (.int v_p1_cracks) (.ref a_p1_known), aQ cQ a_left 4 (q4 a_left_r0 a_left_r1 a_left_r2 a_left_r3), aI cI a_p1_known 7 v_p1_known, aI cI a_left_r0 7 v_left_r0, oX1 a_p2 (.int v_p2_facts) (.int v_p2_so) (.int v_p2_common) (.int v_p2_cases) (.int v_p2_firstTrueDay), aI cI a_left_r1 7 v_left_r1, aI cI a_left_r2 7 v_left_r2, aI cI a_left_r3 7 v_left_r3] sz) o.1 [oX2 a_th (.ref a_left) q_row, oX4 a_p1 (.int v_p1_date) (.int v_p1_trueDay) (.int v_p1_wasAsked) (.int v_p1_clothState) (.int v_p1_cracks) (.ref a_p1_known), aQ cQ a_left 4 (q4 a_left_r0 a_left_r1 a_left_r2 a_left_r3), aI cI a_p1_known 7 v_p1_known, aI cI a_left_r0 7 (o.2.1), oX1 a_p2 (.int v_p2_facts) (.int v_p2_so) (.int v_p2_common) (.int v_p2_cases) (.int v_p2_firstTrueDay), aI cI a_left_r1 7 (o.2.2.1), aI cI a_left_r2 7 (o.2.2.2.1), aI cI a_left_r3 7 (o.2.2.2.2)]) 0 0 (va_A [oX2 a_th (.ref a_left) q_row, oX4 a_p1 (.int v_p1_date) (.int v_p1_trueDay) (.int v_p1_wasAsked) (.int v_p1_clothState) (.int v_p1_cracks) (.ref a_p1_known), aQ cQ a_left 4 (q4 a_left_r0 a_left_r1 a_left_r2 a_left_r3), aI cI a_p1_known 7 v_p1_known, aI cI a_left_r0 7 v_left_r0, oX1 a_p2 (.int v_p2_facts) (.int v_p2_so) (.int v_p2_common) (.int v_p2_cases) (.int v_p2_firstTrueDay), aI cI a_left_r1 7 v_left_r1, aI cI a_left_r2 7 v_left_r2, aI cI a_left_r3 7 v_left_r3] sz) := by
  refine Met.ofW (cc := cX2_firstToAsk) (maxL := 5) (ret := (some .int)) (by decide) rfl ?_
  intro p e s m args below meth c s₁ B hml hv
  obtain ⟨rfl, hsz, hP, hK, hD0, hG⟩ := hv
  have hx := B.exec
  have hb := B.bytes
  have hr := B.returns
  have hts := atoms_spec (ws := wsX2_firstToAsk) B.pre
  have hown : s.vm.findClass RX2 = some m.cls := findClass_of_methodNamed B.named
  have hlocks := B.notSynchronized
  subst hsz
  have hD := hD0.self (sz := s.heap.size)
  generalize hAe : va_A [oX2 a_th (.ref a_left) q_row, oX4 a_p1 (.int v_p1_date) (.int v_p1_trueDay) (.int v_p1_wasAsked) (.int v_p1_clothState) (.int v_p1_cracks) (.ref a_p1_known), aQ cQ a_left 4 (q4 a_left_r0 a_left_r1 a_left_r2 a_left_r3), aI cI a_p1_known 7 v_p1_known, aI cI a_left_r0 7 v_left_r0, oX1 a_p2 (.int v_p2_facts) (.int v_p2_so) (.int v_p2_common) (.int v_p2_cases) (.int v_p2_firstTrueDay), aI cI a_left_r1 7 v_left_r1, aI cI a_left_r2 7 v_left_r2, aI cI a_left_r3 7 v_left_r3] s.heap.size = A at hD hG ⊢
  have hA : ∀ q : Nat, s.heap.size ≤ q → A q := fun q h => by rw [← hAe]; exact Or.inr h
  have hS : va_S A s.heap s.heap [] := va_S.rf
  have hl := lv_entry ([.ref a_th, .ref a_p1, .ref a_p2, .int p_3, .int p_4]) (n := 5) (Nat.le_of_ble_eq_true rfl)
  rw [lg_entry_eq]
  generalize (lg_sl ([.ref a_th, .ref a_p1, .ref a_p2, .int p_3, .int p_4]) ++ List.replicate (5 - (lg_sl ([.ref a_th, .ref a_p1, .ref a_p2, .int p_3, .int p_4])).length) Slot.unset).toArray = ls at hl ⊢
  have hl : lv_has ls 5 [(0, .ref a_th), (1, .ref a_p1), (2, .ref a_p2), (3, .int p_3), (4, .int p_4)] := hl
  have iX4 : ∀ w ∈ wsX40, w ∈ wsX2_firstToAsk := fun _ h => List.mem_cons_of_mem _ (List.mem_append_left _ (List.mem_append_left _ (List.mem_append_right _ h)))
  have iX2 : ∀ w ∈ wsX20, w ∈ wsX2_firstToAsk := fun _ h => List.mem_cons_of_mem _ (List.mem_append_left _ (List.mem_append_right _ h))
  have iX1 : ∀ w ∈ wsX10, w ∈ wsX2_firstToAsk := fun _ h => List.mem_cons_of_mem _ (List.mem_append_right _ h)
  have f20 := va_Nw.use (A := [.ref a_th, .ref a_p1, .ref a_p2, .int p_3, .int p_4].toArray) (w := .fieldLinkNest RX2 20 "TrueOnceWeek$Moment" "known" "[I" "TrueOnceWeek") rfl (hG.1 (RX2, 20, "TrueOnceWeek$Moment", "known", "[I") (by decide +kernel))
  have f11 := hts (.fieldLink RX2 11 "TrueOnceWeek$Foresight" "left" "[[I") (by decide +kernel)
  have ml25 := hts (.methodLink RX2 25 arraycopyName) (by decide +kernel)
  have mn25 := hts (.native arraycopyName) (by decide +kernel)
  have ms25 := hts (.static arraycopyName) (by decide +kernel)
  have mi25 := hts (.initialized "java/lang/System") (by decide +kernel)
  have f31 := va_Nw.use (A := [.ref a_th, .ref a_p1, .ref a_p2, .int p_3, .int p_4].toArray) (w := .fieldLinkNest RX2 31 "TrueOnceWeek$Moment" "date" "I" "TrueOnceWeek") rfl (hG.1 (RX2, 31, "TrueOnceWeek$Moment", "date", "I") (by decide +kernel))
  refine kb_gen (fun Q hQ => ?_)
  unfold m_X2_firstToAsk at hm
  refine lv_aload_n hx hb dX2_firstToAsk_0 rfl (lv_at hl 1 rfl) ?_
  refine va_getN (D := (dC, dI)) (ci := 4) (v := .ref a_p1_known) (C := RX4) (T := TX4) (N := 6) hx hb hts iX4 hown hK hP 1 rfl rfl 5 (by decide) f20 (fun _ h9 => h9) rfl dX2_firstToAsk_1 ?_
  refine lv_iconst (v := (0 : Int32)) hx hb dX2_firstToAsk_4 (by decide) ?_
  refine lv_aload_n hx hb dX2_firstToAsk_5 rfl (lv_at hl 0 rfl) ?_
  refine va_get (D := (dC, dI)) (ci := 2) (v := .ref a_left) (C := RX2) (T := TX2) (N := 2) hx hb hts iX2 hown hK hP 0 rfl rfl 0 (by decide) f11 (fun _ h9 => h9) rfl dX2_firstToAsk_6 ?_
  refine lv_iconst (v := (0 : Int32)) hx hb dX2_firstToAsk_9 (by decide) ?_
  refine kb_aald (y := a_left_r0) hx hb hK hP 2 3 rfl rfl (inB_s (by decide)) rfl dX2_firstToAsk_10 ?_
  refine lv_iconst (v := (0 : Int32)) hx hb dX2_firstToAsk_11 (by decide) ?_
  refine lv_bipush (v := (7 : Int32)) hx hb dX2_firstToAsk_12 (by decide) ?_
  obtain ⟨h1, hm⟩ := gd_s hm
  obtain ⟨hc1, hc2, hc3, hc4, hc5⟩ := cpB_s h1
  refine va_copyi (ty := .int) hx hb (by rw [hml]; exact hl.1.symm) hown ml25 mn25 ms25 mi25 hK hP (kb_D hD rfl) hS 3 4 0 0 rfl rfl rfl rfl rfl hc1 hc2 hc3 hc4 hc5 (fun _ _ => rfl) (Nat.le_of_ble_eq_true rfl) (Nat.le_of_ble_eq_true rfl) dX2_firstToAsk_14 (fun H locs hP _ hS => ?_)
  have hP : va_P (dC, dI) vwCl [oX2 a_th (.ref a_left) q_row, oX4 a_p1 (.int v_p1_date) (.int v_p1_trueDay) (.int v_p1_wasAsked) (.int v_p1_clothState) (.int v_p1_cracks) (.ref a_p1_known), aQ cQ a_left 4 (q4 a_left_r0 a_left_r1 a_left_r2 a_left_r3), aI cI a_p1_known 7 v_p1_known, aI cI a_left_r0 7 (va_cpy v_p1_known v_left_r0 (Int32.toNatClampNeg (0 : Int32)) (Int32.toNatClampNeg (0 : Int32)) (Int32.toNatClampNeg (7 : Int32))), oX1 a_p2 (.int v_p2_facts) (.int v_p2_so) (.int v_p2_common) (.int v_p2_cases) (.int v_p2_firstTrueDay), aI cI a_left_r1 7 v_left_r1, aI cI a_left_r2 7 v_left_r2, aI cI a_left_r3 7 v_left_r3] H := hP
  refine lv_aload_n hx hb dX2_firstToAsk_17 rfl (lv_at hl 0 rfl) ?_
  refine lv_aload_n hx hb dX2_firstToAsk_18 rfl (lv_at hl 2 rfl) ?_
  refine lv_iconst (v := (0 : Int32)) hx hb dX2_firstToAsk_19 (by decide) ?_
  refine lv_iload_n hx hb dX2_firstToAsk_20 rfl (lv_at hl 3 rfl) ?_
  refine lv_iload hx hb dX2_firstToAsk_21 (lv_at hl 4 rfl) ?_
  refine lv_aload_n hx hb dX2_firstToAsk_23 rfl (lv_at hl 1 rfl) ?_
  refine va_getN (D := (dC, dI)) (ci := 4) (v := .int v_p1_date) (C := RX4) (T := TX4) (N := 6) hx hb hts iX4 hown hK hP 1 rfl rfl 0 (by decide) f31 (fun _ h9 => h9) rfl dX2_firstToAsk_24 ?_
  obtain ⟨r2, w3, w4, w5, ho6, hm⟩ := bd4_s hm
  refine kb_calli (Rv := r2) (va_runV (As := [.ref a_p2, .int (0 : Int32), .int p_3, .int p_4, .int v_p1_date]) (rest := []) ⟨hx, hb, hml, hown, hts⟩ (c_X2_leastThatTells_k0 l dC dI cI cJ cZ cQ t H.size a_th a_p2 a_left a_left_r0 a_left_r1 a_left_r2 a_left_r3 q_row v_p2_facts v_p2_so v_p2_common v_p2_cases v_p2_firstTrueDay (va_cpy v_p1_known v_left_r0 (Int32.toNatClampNeg (0 : Int32)) (Int32.toNatClampNeg (0 : Int32)) (Int32.toNatClampNeg (7 : Int32))) v_left_r1 v_left_r2 v_left_r3 p_3 p_4 v_p1_date (r2, w3, w4, w5) ho6) (cwV 5 hts gX2_firstToAsk_X2_leastThatTells rfl rfl rfl (by decide +kernel) ⟨(Nat.le_of_ble_eq_true rfl), (Nat.le_of_ble_eq_true rfl)⟩) ⟨(kb_pre hK hG hP (kb_D hD rfl) hS hA [0, 5, 2, 4, 6, 7, 8] rfl (by decide)).1, (va_recv hK hP (ci := 2) (q0 := 0) rfl rfl), (kb_pre hK hG hP (kb_D hD rfl) hS hA [0, 5, 2, 4, 6, 7, 8] rfl (by decide)).2⟩ rfl rfl hl.1 rfl (lv_room (Nat.le_of_ble_eq_true rfl)) dX2_firstToAsk_27 ⟨Nat.zero_le _, Nat.zero_le _⟩) hP (kb_D hD rfl) hS hA [0, 5, 2, 4, 6, 7, 8] rfl [(true, 0), (false, 1), (true, 2), (false, 3), (true, 3), (true, 1), (true, 4), (true, 5), (true, 6)] (w2 := [oX2 a_th (.ref a_left) q_row, oX4 a_p1 (.int v_p1_date) (.int v_p1_trueDay) (.int v_p1_wasAsked) (.int v_p1_clothState) (.int v_p1_cracks) (.ref a_p1_known), aQ cQ a_left 4 (q4 a_left_r0 a_left_r1 a_left_r2 a_left_r3), aI cI a_p1_known 7 v_p1_known, aI cI a_left_r0 7 (va_cpy v_p1_known v_left_r0 (Int32.toNatClampNeg (0 : Int32)) (Int32.toNatClampNeg (0 : Int32)) (Int32.toNatClampNeg (7 : Int32))), oX1 a_p2 (.int v_p2_facts) (.int v_p2_so) (.int v_p2_common) (.int v_p2_cases) (.int v_p2_firstTrueDay), aI cI a_left_r1 7 w3, aI cI a_left_r2 7 w4, aI cI a_left_r3 7 w5]) rfl (by decide) (fun H locs hP hS => ?_)
  obtain rfl := Option.some.inj hm
  subst hQ
  exact W.iret hx hb hr (fun t ht hW => ⟨⟨_, (), rfl, rfl, kb_h hP ht⟩, hS.F ht⟩) hS.2.2 dX2_firstToAsk_30
set_option maxHeartbeats 4000000 in
set_option maxRecDepth 100000 in
theorem c_X9_tells (l : Launch) (dC : Nat → ClassId) (dI : Nat → Nat → Nat) (cI cJ cZ cQ : ClassId) (t sz : Nat) (a_th : Nat) (a_theCastle : Nat) (a_foresight : Nat) (a_now : Nat) (a_foresight_left : Nat) (a_now_known : Nat) (a_foresight_left_r0 : Nat) (a_foresight_left_r1 : Nat) (a_foresight_left_r2 : Nat) (a_foresight_left_r3 : Nat) (q_theText : Value) (q_theQuestion : Value) (q_theActs : Value) (q_theTold : Value) (q_keptMoments : Value) (q_isKept : Value) (q_marchWorlds : Value) (q_foresight_row : Value) (v_theSeed : Int64) (v_theCastle_facts : Int32) (v_theCastle_so : Int32) (v_theCastle_common : Int32) (v_theCastle_cases : Int32) (v_theCastle_firstTrueDay : Int32) (v_now_date : Int32) (v_now_trueDay : Int32) (v_now_wasAsked : Int32) (v_now_clothState : Int32) (v_now_cracks : Int32) (v_now_known : (Nat → Int32)) (v_foresight_left_r0 : (Nat → Int32)) (v_foresight_left_r1 : (Nat → Int32)) (v_foresight_left_r2 : (Nat → Int32)) (v_foresight_left_r3 : (Nat → Int32)) (p_1 : Int32) (p_2 : Int32) (p_3 : Int32) (o : Int32 × (Nat → Int32) × (Nat → Int32) × (Nat → Int32) × (Nat → Int32)) (hm : m_X9_tells p_1 p_2 p_3 v_theCastle_facts v_now_date v_now_known v_foresight_left_r0 v_foresight_left_r1 v_foresight_left_r2 v_foresight_left_r3 = some o) : Met l yX9_tells wsX9_tells { frames := 13, cells := 0, slots := 0, locals := 330 } (va_Pc [.ref a_th, .int p_1, .int p_2, .int p_3] (cP (dC, dI) (kT cI cJ cZ cQ) t sz [oX9 a_th q_theText q_theQuestion (.ref a_theCastle) (.ref a_now) q_theActs q_theTold (.ref a_foresight) q_keptMoments q_isKept q_marchWorlds (.long v_theSeed), oX1 a_theCastle (.int v_theCastle_facts) (.int v_theCastle_so) (.int v_theCastle_common) (.int v_theCastle_cases) (.int v_theCastle_firstTrueDay), oX2 a_foresight (.ref a_foresight_left) q_foresight_row, oX4 a_now (.int v_now_date) (.int v_now_trueDay) (.int v_now_wasAsked) (.int v_now_clothState) (.int v_now_cracks) (.ref a_now_known), aQ cQ a_foresight_left 4 (q4 a_foresight_left_r0 a_foresight_left_r1 a_foresight_left_r2 a_foresight_left_r3), aI cI a_now_known 7 v_now_known, aI cI a_foresight_left_r0 7 v_foresight_left_r0, aI cI a_foresight_left_r1 7 v_foresight_left_r1, aI cI a_foresight_left_r2 7 v_foresight_left_r2, aI cI a_foresight_left_r3 7 v_foresight_left_r3])) (cQi (dC, dI) (va_A [oX9 a_th q_theText q_theQuestion (.ref a_theCastle) (.ref a_now) q_theActs q_theTold (.ref a_foresight) q_keptMoments q_isKept q_marchWorlds (.long v_theSeed), oX1 a_theCastle (.int v_theCastle_facts) (.int v_theCastle_so) (.int v_theCastle_common) (.int v_theCastle_cases) (.int v_theCastle_firstTrueDay), oX2 a_foresight (.ref a_foresight_left) q_foresight_row, oX4 a_now (.int v_now_date) (.int v_now_trueDay) (.int v_now_wasAsked) (.int v_now_clothState) (.int v_now_cracks) (.ref a_now_known), aQ cQ a_foresight_left 4 (q4 a_foresight_left_r0 a_foresight_left_r1 a_foresight_left_r2 a_foresight_left_r3), aI cI a_now_known 7 v_now_known, aI cI a_foresight_left_r0 7 v_foresight_left_r0, aI cI a_foresight_left_r1 7 v_foresight_left_r1, aI cI a_foresight_left_r2 7 v_foresight_left_r2, aI cI a_foresight_left_r3 7 v_foresight_left_r3] sz) o.1 [oX9 a_th q_theText q_theQuestion (.ref a_theCastle) (.ref a_now) q_theActs q_theTold (.ref a_foresight) q_keptMoments q_isKept q_marchWorlds (.long v_theSeed), oX1 a_theCastle (.int v_theCastle_facts) (.int v_theCastle_so) (.int v_theCastle_common) (.int v_theCastle_cases) (.int v_theCastle_firstTrueDay), oX2 a_foresight (.ref a_foresight_left) q_foresight_row, oX4 a_now (.int v_now_date) (.int v_now_trueDay) (.int v_now_wasAsked) (.int v_now_clothState) (.int v_now_cracks) (.ref a_now_known), aQ cQ a_foresight_left 4 (q4 a_foresight_left_r0 a_foresight_left_r1 a_foresight_left_r2 a_foresight_left_r3), aI cI a_now_known 7 v_now_known, aI cI a_foresight_left_r0 7 (o.2.1), aI cI a_foresight_left_r1 7 (o.2.2.1), aI cI a_foresight_left_r2 7 (o.2.2.2.1), aI cI a_foresight_left_r3 7 (o.2.2.2.2)]) 0 0 (va_A [oX9 a_th q_theText q_theQuestion (.ref a_theCastle) (.ref a_now) q_theActs q_theTold (.ref a_foresight) q_keptMoments q_isKept q_marchWorlds (.long v_theSeed), oX1 a_theCastle (.int v_theCastle_facts) (.int v_theCastle_so) (.int v_theCastle_common) (.int v_theCastle_cases) (.int v_theCastle_firstTrueDay), oX2 a_foresight (.ref a_foresight_left) q_foresight_row, oX4 a_now (.int v_now_date) (.int v_now_trueDay) (.int v_now_wasAsked) (.int v_now_clothState) (.int v_now_cracks) (.ref a_now_known), aQ cQ a_foresight_left 4 (q4 a_foresight_left_r0 a_foresight_left_r1 a_foresight_left_r2 a_foresight_left_r3), aI cI a_now_known 7 v_now_known, aI cI a_foresight_left_r0 7 v_foresight_left_r0, aI cI a_foresight_left_r1 7 v_foresight_left_r1, aI cI a_foresight_left_r2 7 v_foresight_left_r2, aI cI a_foresight_left_r3 7 v_foresight_left_r3] sz) := by
  refine Met.ofW (cc := cX9_tells) (maxL := 6) (ret := (some .int)) (by decide) rfl ?_
  intro p e s m args below meth c s₁ B hml hv
  obtain ⟨rfl, hsz, hP, hK, hD0, hG⟩ := hv
  have hx := B.exec
  have hb := B.bytes
  have hr := B.returns
  have hts := atoms_spec (ws := wsX9_tells) B.pre
  have hown : s.vm.findClass RX9 = some m.cls := findClass_of_methodNamed B.named
  have hlocks := B.notSynchronized
  subst hsz
  have hD := hD0.self (sz := s.heap.size)
  generalize hAe : va_A [oX9 a_th q_theText q_theQuestion (.ref a_theCastle) (.ref a_now) q_theActs q_theTold (.ref a_foresight) q_keptMoments q_isKept q_marchWorlds (.long v_theSeed), oX1 a_theCastle (.int v_theCastle_facts) (.int v_theCastle_so) (.int v_theCastle_common) (.int v_theCastle_cases) (.int v_theCastle_firstTrueDay), oX2 a_foresight (.ref a_foresight_left) q_foresight_row, oX4 a_now (.int v_now_date) (.int v_now_trueDay) (.int v_now_wasAsked) (.int v_now_clothState) (.int v_now_cracks) (.ref a_now_known), aQ cQ a_foresight_left 4 (q4 a_foresight_left_r0 a_foresight_left_r1 a_foresight_left_r2 a_foresight_left_r3), aI cI a_now_known 7 v_now_known, aI cI a_foresight_left_r0 7 v_foresight_left_r0, aI cI a_foresight_left_r1 7 v_foresight_left_r1, aI cI a_foresight_left_r2 7 v_foresight_left_r2, aI cI a_foresight_left_r3 7 v_foresight_left_r3] s.heap.size = A at hD hG ⊢
  have hA : ∀ q : Nat, s.heap.size ≤ q → A q := fun q h => by rw [← hAe]; exact Or.inr h
  have hS : va_S A s.heap s.heap [] := va_S.rf
  have hl := lv_entry ([.ref a_th, .int p_1, .int p_2, .int p_3]) (n := 6) (Nat.le_of_ble_eq_true rfl)
  rw [lg_entry_eq]
  generalize (lg_sl ([.ref a_th, .int p_1, .int p_2, .int p_3]) ++ List.replicate (6 - (lg_sl ([.ref a_th, .int p_1, .int p_2, .int p_3])).length) Slot.unset).toArray = ls at hl ⊢
  have hl : lv_has ls 6 [(0, .ref a_th), (1, .int p_1), (2, .int p_2), (3, .int p_3)] := hl
  have iX9 : ∀ w ∈ wsX90, w ∈ wsX9_tells := fun _ h => List.mem_cons_of_mem _ (List.mem_append_left _ (List.mem_append_left _ (List.mem_append_left _ (List.mem_append_right _ h))))
  have iX1 : ∀ w ∈ wsX10, w ∈ wsX9_tells := fun _ h => List.mem_cons_of_mem _ (List.mem_append_left _ (List.mem_append_left _ (List.mem_append_right _ h)))
  have iX4 : ∀ w ∈ wsX40, w ∈ wsX9_tells := fun _ h => List.mem_cons_of_mem _ (List.mem_append_left _ (List.mem_append_right _ h))
  have iX2 : ∀ w ∈ wsX20, w ∈ wsX9_tells := fun _ h => List.mem_cons_of_mem _ (List.mem_append_right _ h)
  have f56 := hts (.fieldLink RX9 56 "TrueOnceWeek" "foresight" "LTrueOnceWeek$Foresight;") (by decide +kernel)
  have f35 := hts (.fieldLink RX9 35 "TrueOnceWeek" "now" "LTrueOnceWeek$Moment;") (by decide +kernel)
  have f28 := hts (.fieldLink RX9 28 "TrueOnceWeek" "theCastle" "LTrueOnceWeek$Castle;") (by decide +kernel)
  refine kb_gen (fun Q hQ => ?_)
  unfold m_X9_tells at hm
  refine lv_iload_n hx hb dX9_tells_0 rfl (lv_at hl 2 rfl) ?_
  refine lv_iconst (v := (5 : Int32)) hx hb dX9_tells_1 (by decide) ?_
  obtain ⟨k21, ek21, hm⟩ := nm_s hm
  have J21 : ∀ (x1 : Int32) (H : Heap) (locs : List Loc) (ls : Array Slot), k21 x1 = some o → va_P (dC, dI) vwCl [oX9 a_th q_theText q_theQuestion (.ref a_theCastle) (.ref a_now) q_theActs q_theTold (.ref a_foresight) q_keptMoments q_isKept q_marchWorlds (.long v_theSeed), oX1 a_theCastle (.int v_theCastle_facts) (.int v_theCastle_so) (.int v_theCastle_common) (.int v_theCastle_cases) (.int v_theCastle_firstTrueDay), oX2 a_foresight (.ref a_foresight_left) q_foresight_row, oX4 a_now (.int v_now_date) (.int v_now_trueDay) (.int v_now_wasAsked) (.int v_now_clothState) (.int v_now_cracks) (.ref a_now_known), aQ cQ a_foresight_left 4 (q4 a_foresight_left_r0 a_foresight_left_r1 a_foresight_left_r2 a_foresight_left_r3), aI cI a_now_known 7 v_now_known, aI cI a_foresight_left_r0 7 v_foresight_left_r0, aI cI a_foresight_left_r1 7 v_foresight_left_r1, aI cI a_foresight_left_r2 7 v_foresight_left_r2, aI cI a_foresight_left_r3 7 v_foresight_left_r3] H → va_S A s.heap H locs → lv_has ls 6 [(0, .ref a_th), (1, .int p_1), (2, .int p_2), (3, .int p_3)] → W p l e (headSpec wsX9_tells { frames := 13, cells := 0, slots := 0, locals := 330 }).room s m [.ref a_th, .int p_1, .int p_2, .int p_3].toArray below meth c H locs 0 0 Q (F0 m 21 ls [.int x1]) := by
    intro x1 H locs ls hm hP hS hl
    rw [ek21] at hm
    refine lv_istore (lv' := [(4, .int x1), (0, .ref a_th), (1, .int p_1), (2, .int p_2), (3, .int p_3)]) hx hb dX9_tells_21 hl (by decide) rfl (fun ls hl => ?_)
    refine lv_iload_n hx hb dX9_tells_23 rfl (lv_at hl 2 rfl) ?_
    refine lv_iconst (v := (1 : Int32)) hx hb dX9_tells_24 (by decide) ?_
    refine lv_icmp_lt (tgt := 47) hx hb dX9_tells_25 (by decide) (fun c2 => ?_) (fun c2 => ?_)
    · replace hm := ite_t c2 hm
      refine lv_bipush (v := (-2 : Int32)) hx hb dX9_tells_47 (by decide) ?_
      obtain rfl := Option.some.inj hm
      subst hQ
      exact W.iret hx hb hr (fun t ht hW => ⟨⟨_, (), rfl, rfl, kb_h hP ht⟩, hS.F ht⟩) hS.2.2 dX9_tells_49
    · replace hm := ite_f c2 hm
      refine lv_iload_n hx hb dX9_tells_28 rfl (lv_at hl 2 rfl) ?_
      refine lv_iconst (v := (3 : Int32)) hx hb dX9_tells_29 (by decide) ?_
      refine lv_icmp_gt (tgt := 47) hx hb dX9_tells_30 (by decide) (fun c3 => ?_) (fun c3 => ?_)
      · replace hm := ite_t c3 hm
        refine lv_bipush (v := (-2 : Int32)) hx hb dX9_tells_47 (by decide) ?_
        obtain rfl := Option.some.inj hm
        subst hQ
        exact W.iret hx hb hr (fun t ht hW => ⟨⟨_, (), rfl, rfl, kb_h hP ht⟩, hS.F ht⟩) hS.2.2 dX9_tells_49
      · replace hm := ite_f c3 hm
        refine lv_iload hx hb dX9_tells_33 (lv_at hl 0 rfl) ?_
        refine lv_if_eq (tgt := 47) hx hb dX9_tells_35 (by decide) (fun c4 => ?_) (fun c4 => ?_)
        · replace hm := ite_t c4 hm
          refine lv_bipush (v := (-2 : Int32)) hx hb dX9_tells_47 (by decide) ?_
          obtain rfl := Option.some.inj hm
          subst hQ
          exact W.iret hx hb hr (fun t ht hW => ⟨⟨_, (), rfl, rfl, kb_h hP ht⟩, hS.F ht⟩) hS.2.2 dX9_tells_49
        · replace hm := ite_f c4 hm
          refine lv_iload_n hx hb dX9_tells_38 rfl (lv_at hl 4 rfl) ?_
          refine lv_if_lt (tgt := 47) hx hb dX9_tells_39 (by decide) (fun c5 => ?_) (fun c5 => ?_)
          · replace hm := ite_t c5 hm
            refine lv_bipush (v := (-2 : Int32)) hx hb dX9_tells_47 (by decide) ?_
            obtain rfl := Option.some.inj hm
            subst hQ
            exact W.iret hx hb hr (fun t ht hW => ⟨⟨_, (), rfl, rfl, kb_h hP ht⟩, hS.F ht⟩) hS.2.2 dX9_tells_49
          · replace hm := ite_f c5 hm
            refine lv_iload_n hx hb dX9_tells_42 rfl (lv_at hl 4 rfl) ?_
            refine lv_iconst (v := (1 : Int32)) hx hb dX9_tells_43 (by decide) ?_
            refine lv_icmp_le (tgt := 50) hx hb dX9_tells_44 (by decide) (fun c6 => ?_) (fun c6 => ?_)
            · replace hm := ite_t c6 hm
              refine lv_aload_n hx hb dX9_tells_50 rfl (lv_at hl 1 rfl) ?_
              refine va_get (D := (dC, dI)) (ci := 7) (v := .ref a_foresight) (C := RX9) (T := TX9) (N := 11) hx hb hts iX9 hown hK hP 0 rfl rfl 6 (by decide) f56 (fun _ h9 => h9) rfl dX9_tells_51 ?_
              refine lv_aload_n hx hb dX9_tells_54 rfl (lv_at hl 1 rfl) ?_
              refine va_get (D := (dC, dI)) (ci := 7) (v := .ref a_now) (C := RX9) (T := TX9) (N := 11) hx hb hts iX9 hown hK hP 0 rfl rfl 3 (by decide) f35 (fun _ h9 => h9) rfl dX9_tells_55 ?_
              refine lv_aload_n hx hb dX9_tells_58 rfl (lv_at hl 1 rfl) ?_
              refine va_get (D := (dC, dI)) (ci := 7) (v := .ref a_theCastle) (C := RX9) (T := TX9) (N := 11) hx hb hts iX9 hown hK hP 0 rfl rfl 2 (by decide) f28 (fun _ h9 => h9) rfl dX9_tells_59 ?_
              refine lv_iload_n hx hb dX9_tells_62 rfl (lv_at hl 2 rfl) ?_
              refine lv_iload_n hx hb dX9_tells_63 rfl (lv_at hl 3 rfl) ?_
              obtain ⟨r7, w8, w9, w10, w11, ho12, hm⟩ := bd5_s hm
              refine kb_calli (Rv := r7) (va_runV (As := [.ref a_now, .ref a_theCastle, .int p_1, .int p_2]) (rest := []) ⟨hx, hb, hml, hown, hts⟩ (c_X2_firstToAsk l dC dI cI cJ cZ cQ t H.size a_foresight a_now a_foresight_left a_now_known a_foresight_left_r0 a_theCastle a_foresight_left_r1 a_foresight_left_r2 a_foresight_left_r3 q_foresight_row v_now_date v_now_trueDay v_now_wasAsked v_now_clothState v_now_cracks v_now_known v_foresight_left_r0 v_theCastle_facts v_theCastle_so v_theCastle_common v_theCastle_cases v_theCastle_firstTrueDay v_foresight_left_r1 v_foresight_left_r2 v_foresight_left_r3 p_1 p_2 (r7, w8, w9, w10, w11) ho12) (cwV 4 hts gX9_tells_X2_firstToAsk rfl rfl rfl (by decide +kernel) ⟨(Nat.le_of_ble_eq_true rfl), (Nat.le_of_ble_eq_true rfl)⟩) ⟨(kb_pre hK hG hP (kb_D hD rfl) hS hA [2, 3, 4, 5, 6, 1, 7, 8, 9] rfl (by decide)).1, (va_recv hK hP (ci := 2) (q0 := 2) rfl rfl), (kb_pre hK hG hP (kb_D hD rfl) hS hA [2, 3, 4, 5, 6, 1, 7, 8, 9] rfl (by decide)).2⟩ rfl rfl hl.1 rfl (lv_room (Nat.le_of_ble_eq_true rfl)) dX9_tells_64 ⟨Nat.zero_le _, Nat.zero_le _⟩) hP (kb_D hD rfl) hS hA [2, 3, 4, 5, 6, 1, 7, 8, 9] rfl [(false, 0), (true, 5), (true, 0), (true, 1), (true, 2), (true, 3), (true, 4), (true, 6), (true, 7), (true, 8)] (w2 := [oX9 a_th q_theText q_theQuestion (.ref a_theCastle) (.ref a_now) q_theActs q_theTold (.ref a_foresight) q_keptMoments q_isKept q_marchWorlds (.long v_theSeed), oX1 a_theCastle (.int v_theCastle_facts) (.int v_theCastle_so) (.int v_theCastle_common) (.int v_theCastle_cases) (.int v_theCastle_firstTrueDay), oX2 a_foresight (.ref a_foresight_left) q_foresight_row, oX4 a_now (.int v_now_date) (.int v_now_trueDay) (.int v_now_wasAsked) (.int v_now_clothState) (.int v_now_cracks) (.ref a_now_known), aQ cQ a_foresight_left 4 (q4 a_foresight_left_r0 a_foresight_left_r1 a_foresight_left_r2 a_foresight_left_r3), aI cI a_now_known 7 v_now_known, aI cI a_foresight_left_r0 7 w8, aI cI a_foresight_left_r1 7 w9, aI cI a_foresight_left_r2 7 w10, aI cI a_foresight_left_r3 7 w11]) rfl (by decide) (fun H locs hP hS => ?_)
              refine lv_istore (lv' := [(5, .int r7), (4, .int x1), (0, .ref a_th), (1, .int p_1), (2, .int p_2), (3, .int p_3)]) hx hb dX9_tells_67 hl (by decide) rfl (fun ls hl => ?_)
              refine lv_iload_n hx hb dX9_tells_69 rfl (lv_at hl 5 rfl) ?_
              refine lv_iconst (v := (1 : Int32)) hx hb dX9_tells_70 (by decide) ?_
              refine lv_icmp_ne (tgt := 77) hx hb dX9_tells_71 (by decide) (fun c13 => ?_) (fun c13 => ?_)
              · replace hm := ite_f c13 hm
                refine lv_iload hx hb dX9_tells_77 (lv_at hl 0 rfl) ?_
                refine lv_bipush (v := (-9 : Int32)) hx hb dX9_tells_79 (by decide) ?_
                refine lv_icmp_ne (tgt := 88) hx hb dX9_tells_81 (by decide) (fun c14 => ?_) (fun c14 => ?_)
                · replace hm := ite_f c14 hm
                  refine lv_iconst (v := (1 : Int32)) hx hb dX9_tells_88 (by decide) ?_
                  obtain rfl := Option.some.inj hm
                  subst hQ
                  exact W.iret hx hb hr (fun t ht hW => ⟨⟨_, (), rfl, rfl, kb_h hP ht⟩, hS.F ht⟩) hS.2.2 dX9_tells_89
                · replace hm := ite_t c14 hm
                  refine lv_iconst (v := (0 : Int32)) hx hb dX9_tells_84 (by decide) ?_
                  refine lv_goto (tgt := 89) hx hb dX9_tells_85 (by decide) ?_
                  obtain rfl := Option.some.inj hm
                  subst hQ
                  exact W.iret hx hb hr (fun t ht hW => ⟨⟨_, (), rfl, rfl, kb_h hP ht⟩, hS.F ht⟩) hS.2.2 dX9_tells_89
              · replace hm := ite_t c13 hm
                refine lv_iload hx hb dX9_tells_74 (lv_at hl 0 rfl) ?_
                obtain rfl := Option.some.inj hm
                subst hQ
                exact W.iret hx hb hr (fun t ht hW => ⟨⟨_, (), rfl, rfl, kb_h hP ht⟩, hS.F ht⟩) hS.2.2 dX9_tells_76
            · replace hm := ite_f c6 hm
              refine lv_bipush (v := (-2 : Int32)) hx hb dX9_tells_47 (by decide) ?_
              obtain rfl := Option.some.inj hm
              subst hQ
              exact W.iret hx hb hr (fun t ht hW => ⟨⟨_, (), rfl, rfl, kb_h hP ht⟩, hS.F ht⟩) hS.2.2 dX9_tells_49
  obtain ⟨k16, ek16, hm⟩ := nm_s hm
  have J16 : ∀ (H : Heap) (locs : List Loc) (ls : Array Slot), k16 = some o → va_P (dC, dI) vwCl [oX9 a_th q_theText q_theQuestion (.ref a_theCastle) (.ref a_now) q_theActs q_theTold (.ref a_foresight) q_keptMoments q_isKept q_marchWorlds (.long v_theSeed), oX1 a_theCastle (.int v_theCastle_facts) (.int v_theCastle_so) (.int v_theCastle_common) (.int v_theCastle_cases) (.int v_theCastle_firstTrueDay), oX2 a_foresight (.ref a_foresight_left) q_foresight_row, oX4 a_now (.int v_now_date) (.int v_now_trueDay) (.int v_now_wasAsked) (.int v_now_clothState) (.int v_now_cracks) (.ref a_now_known), aQ cQ a_foresight_left 4 (q4 a_foresight_left_r0 a_foresight_left_r1 a_foresight_left_r2 a_foresight_left_r3), aI cI a_now_known 7 v_now_known, aI cI a_foresight_left_r0 7 v_foresight_left_r0, aI cI a_foresight_left_r1 7 v_foresight_left_r1, aI cI a_foresight_left_r2 7 v_foresight_left_r2, aI cI a_foresight_left_r3 7 v_foresight_left_r3] H → va_S A s.heap H locs → lv_has ls 6 [(0, .ref a_th), (1, .int p_1), (2, .int p_2), (3, .int p_3)] → W p l e (headSpec wsX9_tells { frames := 13, cells := 0, slots := 0, locals := 330 }).room s m [.ref a_th, .int p_1, .int p_2, .int p_3].toArray below meth c H locs 0 0 Q (F0 m 16 ls []) := by
    intro  H locs ls hm hP hS hl
    rw [ek16] at hm
    refine lv_iconst (v := (1 : Int32)) hx hb dX9_tells_16 (by decide) ?_
    refine lv_goto (tgt := 21) hx hb dX9_tells_17 (by decide) ?_
    exact J21 (1 : Int32) _ _ _ hm hP hS (lv_sub hl [0, 1, 2, 3] rfl)
  refine lv_icmp_eq (tgt := 16) hx hb dX9_tells_2 (by decide) (fun c15 => ?_) (fun c15 => ?_)
  · replace hm := ite_t c15 hm
    exact J16  _ _ _ hm hP hS (lv_sub hl [0, 1, 2, 3] rfl)
  · replace hm := ite_f c15 hm
    refine lv_aload_n hx hb dX9_tells_5 rfl (lv_at hl 0 rfl) ?_
    refine va_get (D := (dC, dI)) (ci := 7) (v := .ref a_theCastle) (C := RX9) (T := TX9) (N := 11) hx hb hts iX9 hown hK hP 0 rfl rfl 2 (by decide) f28 (fun _ h9 => h9) rfl dX9_tells_6 ?_
    refine lv_iload_n hx hb dX9_tells_9 rfl (lv_at hl 2 rfl) ?_
    obtain ⟨r16, ho17, hm⟩ := bd1_s hm
    refine kb_calli (Rv := r16) (va_runV (As := [.int p_2]) (rest := []) ⟨hx, hb, hml, hown, hts⟩ (c_X1_hasFact l dC dI cI cJ cZ cQ t s.heap.size a_theCastle v_theCastle_facts v_theCastle_so v_theCastle_common v_theCastle_cases v_theCastle_firstTrueDay p_2 (r16) ho17) (cwV 1 hts gX9_tells_X1_hasFact rfl rfl rfl (by decide +kernel) ⟨(Nat.le_of_ble_eq_true rfl), (Nat.le_of_ble_eq_true rfl)⟩) ⟨(kb_pre hK hG hP (kb_D hD rfl) hS hA [1] rfl (by decide)).1, (va_recv hK hP (ci := 1) (q0 := 1) rfl rfl), (kb_pre hK hG hP (kb_D hD rfl) hS hA [1] rfl (by decide)).2⟩ rfl rfl hl.1 rfl (lv_room (Nat.le_of_ble_eq_true rfl)) dX9_tells_10 ⟨Nat.zero_le _, Nat.zero_le _⟩) hP (kb_D hD rfl) hS hA [1] rfl [(false, 0), (true, 0), (false, 2), (false, 3), (false, 4), (false, 5), (false, 6), (false, 7), (false, 8), (false, 9)] (w2 := [oX9 a_th q_theText q_theQuestion (.ref a_theCastle) (.ref a_now) q_theActs q_theTold (.ref a_foresight) q_keptMoments q_isKept q_marchWorlds (.long v_theSeed), oX1 a_theCastle (.int v_theCastle_facts) (.int v_theCastle_so) (.int v_theCastle_common) (.int v_theCastle_cases) (.int v_theCastle_firstTrueDay), oX2 a_foresight (.ref a_foresight_left) q_foresight_row, oX4 a_now (.int v_now_date) (.int v_now_trueDay) (.int v_now_wasAsked) (.int v_now_clothState) (.int v_now_cracks) (.ref a_now_known), aQ cQ a_foresight_left 4 (q4 a_foresight_left_r0 a_foresight_left_r1 a_foresight_left_r2 a_foresight_left_r3), aI cI a_now_known 7 v_now_known, aI cI a_foresight_left_r0 7 v_foresight_left_r0, aI cI a_foresight_left_r1 7 v_foresight_left_r1, aI cI a_foresight_left_r2 7 v_foresight_left_r2, aI cI a_foresight_left_r3 7 v_foresight_left_r3]) rfl (by decide) (fun H locs hP hS => ?_)
    refine lv_if_eq (tgt := 20) hx hb dX9_tells_13 (by decide) (fun c18 => ?_) (fun c18 => ?_)
    · replace hm := ite_t c18 hm
      refine lv_iconst (v := (0 : Int32)) hx hb dX9_tells_20 (by decide) ?_
      exact J21 (0 : Int32) _ _ _ hm hP hS (lv_sub hl [0, 1, 2, 3] rfl)
    · replace hm := ite_f c18 hm
      exact J16  _ _ _ hm hP hS (lv_sub hl [0, 1, 2, 3] rfl)
set_option maxHeartbeats 4000000 in
set_option maxRecDepth 100000 in
theorem c_X2_readRow (l : Launch) (dC : Nat → ClassId) (dI : Nat → Nat → Nat) (cI cJ cZ cQ : ClassId) (t sz : Nat) (a_th : Nat) (a_p1 : Nat) (a_row : Nat) (q_left : Value) (v_p1_facts : Int32) (v_p1_so : Int32) (v_p1_common : Int32) (v_p1_cases : Int32) (v_p1_firstTrueDay : Int32) (v_row : (Nat → Int32)) (p_2 : Int32) (p_3 : Int64) (o : Int32 × (Nat → Int32)) (hm : m_X2_readRow p_2 p_3 v_p1_facts v_row = some o) : Met l yX2_readRow wsX2_readRow { frames := 2, cells := 0, slots := 0, locals := 43 } (va_Pc [.ref a_th, .ref a_p1, .int p_2, .long p_3] (cP (dC, dI) (kT cI cJ cZ cQ) t sz [oX2 a_th q_left (.ref a_row), oX1 a_p1 (.int v_p1_facts) (.int v_p1_so) (.int v_p1_common) (.int v_p1_cases) (.int v_p1_firstTrueDay), aI cI a_row 5 v_row])) (cQi (dC, dI) (va_A [oX2 a_th q_left (.ref a_row), oX1 a_p1 (.int v_p1_facts) (.int v_p1_so) (.int v_p1_common) (.int v_p1_cases) (.int v_p1_firstTrueDay), aI cI a_row 5 v_row] sz) o.1 [oX2 a_th q_left (.ref a_row), oX1 a_p1 (.int v_p1_facts) (.int v_p1_so) (.int v_p1_common) (.int v_p1_cases) (.int v_p1_firstTrueDay), aI cI a_row 5 (o.2)]) 0 0 (va_A [oX2 a_th q_left (.ref a_row), oX1 a_p1 (.int v_p1_facts) (.int v_p1_so) (.int v_p1_common) (.int v_p1_cases) (.int v_p1_firstTrueDay), aI cI a_row 5 v_row] sz) := by
  refine Met.ofW (cc := cX2_readRow) (maxL := 9) (ret := (some .boolean)) (by decide) rfl ?_
  intro p e s m args below meth c s₁ B hml hv
  obtain ⟨rfl, hsz, hP, hK, hD0, hG⟩ := hv
  have hx := B.exec
  have hb := B.bytes
  have hr := B.returns
  have hts := atoms_spec (ws := wsX2_readRow) B.pre
  have hown : s.vm.findClass RX2 = some m.cls := findClass_of_methodNamed B.named
  have hlocks := B.notSynchronized
  subst hsz
  have hD := hD0.self (sz := s.heap.size)
  generalize hAe : va_A [oX2 a_th q_left (.ref a_row), oX1 a_p1 (.int v_p1_facts) (.int v_p1_so) (.int v_p1_common) (.int v_p1_cases) (.int v_p1_firstTrueDay), aI cI a_row 5 v_row] s.heap.size = A at hD hG ⊢
  have hA : ∀ q : Nat, s.heap.size ≤ q → A q := fun q h => by rw [← hAe]; exact Or.inr h
  have hS : va_S A s.heap s.heap [] := va_S.rf
  have hl := lv_entry ([.ref a_th, .ref a_p1, .int p_2, .long p_3]) (n := 9) (Nat.le_of_ble_eq_true rfl)
  rw [lg_entry_eq]
  generalize (lg_sl ([.ref a_th, .ref a_p1, .int p_2, .long p_3]) ++ List.replicate (9 - (lg_sl ([.ref a_th, .ref a_p1, .int p_2, .long p_3])).length) Slot.unset).toArray = ls at hl ⊢
  have hl : lv_has ls 9 [(0, .ref a_th), (1, .ref a_p1), (2, .int p_2), (3, .long p_3)] := hl
  have iX2 : ∀ w ∈ wsX20, w ∈ wsX2_readRow := fun _ h => List.mem_cons_of_mem _ (List.mem_append_left _ (List.mem_append_right _ h))
  have iX1 : ∀ w ∈ wsX10, w ∈ wsX2_readRow := fun _ h => List.mem_cons_of_mem _ (List.mem_append_right _ h)
  have cl85 := hts (.constantLong RX2 85 (100 : Int64)) (by decide +kernel)
  have f16 := hts (.fieldLink RX2 16 "TrueOnceWeek$Foresight" "row" "[I") (by decide +kernel)
  refine kb_gen (fun Q hQ => ?_)
  unfold m_X2_readRow at hm
  refine lv_iload_n hx hb dX2_readRow_0 rfl (lv_at hl 2 rfl) ?_
  refine lv_iconst (v := (1 : Int32)) hx hb dX2_readRow_1 (by decide) ?_
  refine lv_icmp_lt (tgt := 16) hx hb dX2_readRow_2 (by decide) (fun c1 => ?_) (fun c1 => ?_)
  · replace hm := ite_t c1 hm
    refine lv_iconst (v := (0 : Int32)) hx hb dX2_readRow_16 (by decide) ?_
    obtain rfl := Option.some.inj hm
    subst hQ
    exact W.zret hx hb hr rfl (fun t ht hW => ⟨⟨_, (), rfl, rfl, kb_h hP ht⟩, hS.F ht⟩) hS.2.2 dX2_readRow_17
  · replace hm := ite_f c1 hm
    refine lv_iload_n hx hb dX2_readRow_5 rfl (lv_at hl 2 rfl) ?_
    refine lv_iconst (v := (5 : Int32)) hx hb dX2_readRow_6 (by decide) ?_
    refine lv_icmp_gt (tgt := 16) hx hb dX2_readRow_7 (by decide) (fun c2 => ?_) (fun c2 => ?_)
    · replace hm := ite_t c2 hm
      refine lv_iconst (v := (0 : Int32)) hx hb dX2_readRow_16 (by decide) ?_
      obtain rfl := Option.some.inj hm
      subst hQ
      exact W.zret hx hb hr rfl (fun t ht hW => ⟨⟨_, (), rfl, rfl, kb_h hP ht⟩, hS.F ht⟩) hS.2.2 dX2_readRow_17
    · replace hm := ite_f c2 hm
      refine lv_lload_n hx hb dX2_readRow_10 rfl (lv_at hl 3 rfl) ?_
      refine lv_lconst (v := (0 : Int64)) hx hb dX2_readRow_11 (by decide) ?_
      refine W.lcmp hx hb dX2_readRow_12 ?_
      refine lv_if_ge (tgt := 18) hx hb dX2_readRow_13 (by decide) (fun c3 => ?_) (fun c3 => ?_)
      · replace hm := ite_t c3 hm
        refine lv_lload_n hx hb dX2_readRow_18 rfl (lv_at hl 3 rfl) ?_
        refine lv_lstore (lv' := [(5, .long p_3), (0, .ref a_th), (1, .ref a_p1), (2, .int p_2), (3, .long p_3)]) hx hb dX2_readRow_19 hl (by decide) rfl (fun ls hl => ?_)
        refine lv_iload_n hx hb dX2_readRow_21 rfl (lv_at hl 3 rfl) ?_
        refine lv_iconst (v := (1 : Int32)) hx hb dX2_readRow_22 (by decide) ?_
        refine lv_isub hx hb dX2_readRow_23 ?_
        refine lv_topi (fun x4 ex4 => ?_)
        replace hm := nm_t ex4 hm
        refine lv_istore (lv' := [(7, .int x4), (5, .long p_3), (0, .ref a_th), (1, .ref a_p1), (2, .int p_2), (3, .long p_3)]) hx hb dX2_readRow_24 hl (by decide) rfl (fun ls hl => ?_)
        have lp26 : ∀ (n26 : Nat) (x5 : Int64) (x6 : Int32) (w7 : (Nat → Int32)) (k26 : Int64 → (Nat → Int32) → Option (Int32 × (Nat → Int32))) (H : Heap) (locs : List Loc) (ls : Array Slot), L_X2_readRow_26 v_p1_facts n26 x5 x6 w7 k26 = some o → (∀ (x8 : Int64) (w9 : (Nat → Int32)) (H : Heap) (locs : List Loc) (ls : Array Slot), k26 x8 w9 = some o → va_P (dC, dI) vwCl [oX2 a_th q_left (.ref a_row), oX1 a_p1 (.int v_p1_facts) (.int v_p1_so) (.int v_p1_common) (.int v_p1_cases) (.int v_p1_firstTrueDay), aI cI a_row 5 w9] H → va_S A s.heap H locs → lv_has ls 9 [(5, .long x8)] → W p l e (headSpec wsX2_readRow { frames := 2, cells := 0, slots := 0, locals := 43 }).room s m [.ref a_th, .ref a_p1, .int p_2, .long p_3].toArray below meth c H locs 0 0 Q (F0 m 74 ls [])) → va_P (dC, dI) vwCl [oX2 a_th q_left (.ref a_row), oX1 a_p1 (.int v_p1_facts) (.int v_p1_so) (.int v_p1_common) (.int v_p1_cases) (.int v_p1_firstTrueDay), aI cI a_row 5 w7] H → va_S A s.heap H locs → lv_has ls 9 [(0, .ref a_th), (1, .ref a_p1), (5, .long x5), (7, .int x6)] → W p l e (headSpec wsX2_readRow { frames := 2, cells := 0, slots := 0, locals := 43 }).room s m [.ref a_th, .ref a_p1, .int p_2, .long p_3].toArray below meth c H locs 0 0 Q (F0 m 26 ls []) := by
          intro n26
          induction n26 with
          | zero =>
            intro x5 x6 w7 k26 H locs ls hm
            cases (show (none : Option (Int32 × (Nat → Int32))) = some o from hm)
          | succ n26 ih26 =>
            intro x5 x6 w7 k26 H locs ls hm hk26 hP hS hl
            rw [L_X2_readRow_26.eq_2] at hm
            refine lv_iload hx hb dX2_readRow_26 (lv_at hl 3 rfl) ?_
            refine lv_if_lt (tgt := 74) hx hb dX2_readRow_28 (by decide) (fun c10 => ?_) (fun c10 => ?_)
            · replace hm := ite_t c10 hm
              exact hk26 x5 w7 _ _ _ hm hP hS (lv_sub hl [2] rfl)
            · replace hm := ite_f c10 hm
              refine lv_lload hx hb dX2_readRow_31 (lv_at hl 2 rfl) ?_
              refine lv_ldc2 (v := (100 : Int64)) hx hb hown cl85 dX2_readRow_33 ?_
              refine lv_lrem hx hb dX2_readRow_36 (by decide) ?_
              refine lv_l2i (v := (Int64.toInt32 (x5 - x5 / (100 : Int64) * (100 : Int64)))) hx hb dX2_readRow_37 rfl ?_
              refine lv_topi (fun x11 ex11 => ?_)
              replace hm := nm_t ex11 hm
              refine lv_istore (lv' := [(8, .int x11), (0, .ref a_th), (1, .ref a_p1), (5, .long x5), (7, .int x6)]) hx hb dX2_readRow_38 hl (by decide) rfl (fun ls hl => ?_)
              refine lv_aload_n hx hb dX2_readRow_40 rfl (lv_at hl 2 rfl) ?_
              refine lv_iload hx hb dX2_readRow_41 (lv_at hl 0 rfl) ?_
              obtain ⟨r12, ho13, hm⟩ := bd1_s hm
              refine kb_calli (Rv := r12) (va_runV (As := [.int x11]) (rest := []) ⟨hx, hb, hml, hown, hts⟩ (c_X1_hasSimple l dC dI cI cJ cZ cQ t H.size a_p1 v_p1_facts v_p1_so v_p1_common v_p1_cases v_p1_firstTrueDay x11 (r12) ho13) (cwV 1 hts gX2_readRow_X1_hasSimple rfl rfl rfl (by decide +kernel) ⟨(Nat.le_of_ble_eq_true rfl), (Nat.le_of_ble_eq_true rfl)⟩) ⟨(kb_pre hK hG hP (kb_D hD rfl) hS hA [1] rfl (by decide)).1, (va_recv hK hP (ci := 1) (q0 := 1) rfl rfl), (kb_pre hK hG hP (kb_D hD rfl) hS hA [1] rfl (by decide)).2⟩ rfl rfl hl.1 rfl (lv_room (Nat.le_of_ble_eq_true rfl)) dX2_readRow_43 ⟨Nat.zero_le _, Nat.zero_le _⟩) hP (kb_D hD rfl) hS hA [1] rfl [(false, 0), (true, 0), (false, 2)] (w2 := [oX2 a_th q_left (.ref a_row), oX1 a_p1 (.int v_p1_facts) (.int v_p1_so) (.int v_p1_common) (.int v_p1_cases) (.int v_p1_firstTrueDay), aI cI a_row 5 w7]) rfl (by decide) (fun H locs hP hS => ?_)
              refine lv_if_ne (tgt := 51) hx hb dX2_readRow_46 (by decide) (fun c14 => ?_) (fun c14 => ?_)
              · replace hm := ite_f c14 hm
                refine lv_aload_n hx hb dX2_readRow_51 rfl (lv_at hl 1 rfl) ?_
                refine va_get (D := (dC, dI)) (ci := 2) (v := .ref a_row) (C := RX2) (T := TX2) (N := 2) hx hb hts iX2 hown hK hP 0 rfl rfl 1 (by decide) f16 (fun _ h9 => h9) rfl dX2_readRow_52 ?_
                refine lv_iload hx hb dX2_readRow_55 (lv_at hl 4 rfl) ?_
                refine lv_iload hx hb dX2_readRow_57 (lv_at hl 0 rfl) ?_
                obtain ⟨h15, hm⟩ := gd_s hm
                refine va_iast hx hb hK hP (kb_D hD rfl) hS 2 0 rfl rfl (inB_s h15) dX2_readRow_59 (fun H locs hP _ hS => ?_)
                have hP : va_P (dC, dI) vwCl [oX2 a_th q_left (.ref a_row), oX1 a_p1 (.int v_p1_facts) (.int v_p1_so) (.int v_p1_common) (.int v_p1_cases) (.int v_p1_firstTrueDay), aI cI a_row 5 (upd w7 (Int32.toNatClampNeg x6) x11)] H := hP
                refine lv_lload hx hb dX2_readRow_60 (lv_at hl 3 rfl) ?_
                refine lv_ldc2 (v := (100 : Int64)) hx hb hown cl85 dX2_readRow_62 ?_
                refine lv_ldiv hx hb dX2_readRow_65 (by decide) ?_
                refine lv_topl (fun x16 ex16 => ?_)
                replace hm := nm_t ex16 hm
                refine lv_lstore (lv' := [(5, .long x16), (8, .int x11), (0, .ref a_th), (1, .ref a_p1), (7, .int x6)]) hx hb dX2_readRow_66 hl (by decide) rfl (fun ls hl => ?_)
                obtain ⟨x17, ex17⟩ : ∃ y : Int32, y = x6 + (-1 : Int32) := ⟨_, rfl⟩
                replace hm := nm_t ex17 hm
                refine lv_iinc (v := x17) (lv' := [(7, .int x17), (5, .long x16), (8, .int x11), (0, .ref a_th), (1, .ref a_p1)]) hx hb dX2_readRow_68 hl (k := 4) rfl (by rw [ex17]; rfl) (by decide) rfl (fun ls hl => ?_)
                refine lv_goto (tgt := 26) hx hb dX2_readRow_71 (by decide) ?_
                exact ih26 x16 x17 (upd w7 (Int32.toNatClampNeg x6) x11) k26 _ _ _ hm hk26 hP hS (lv_sub hl [3, 4, 1, 0] rfl)
              · replace hm := ite_t c14 hm
                refine lv_iconst (v := (0 : Int32)) hx hb dX2_readRow_49 (by decide) ?_
                obtain rfl := Option.some.inj hm
                subst hQ
                exact W.zret hx hb hr rfl (fun t ht hW => ⟨⟨_, (), rfl, rfl, kb_h hP ht⟩, hS.F ht⟩) hS.2.2 dX2_readRow_50
        refine lp26 1024 p_3 x4 v_row _ _ _ _ hm (fun x8 w9 H locs ls hm hP hS hl => ?_) hP hS (lv_sub hl [2, 3, 1, 0] rfl)
        refine lv_lload hx hb dX2_readRow_74 (lv_at hl 0 rfl) ?_
        refine lv_lconst (v := (0 : Int64)) hx hb dX2_readRow_76 (by decide) ?_
        refine W.lcmp hx hb dX2_readRow_77 ?_
        refine lv_if_ne (tgt := 85) hx hb dX2_readRow_78 (by decide) (fun c18 => ?_) (fun c18 => ?_)
        · replace hm := ite_f c18 hm
          refine lv_iconst (v := (0 : Int32)) hx hb dX2_readRow_85 (by decide) ?_
          obtain rfl := Option.some.inj hm
          subst hQ
          exact W.zret hx hb hr rfl (fun t ht hW => ⟨⟨_, (), rfl, rfl, kb_h hP ht⟩, hS.F ht⟩) hS.2.2 dX2_readRow_86
        · replace hm := ite_t c18 hm
          refine lv_iconst (v := (1 : Int32)) hx hb dX2_readRow_81 (by decide) ?_
          refine lv_goto (tgt := 86) hx hb dX2_readRow_82 (by decide) ?_
          obtain rfl := Option.some.inj hm
          subst hQ
          exact W.zret hx hb hr rfl (fun t ht hW => ⟨⟨_, (), rfl, rfl, kb_h hP ht⟩, hS.F ht⟩) hS.2.2 dX2_readRow_86
      · replace hm := ite_f c3 hm
        refine lv_iconst (v := (0 : Int32)) hx hb dX2_readRow_16 (by decide) ?_
        obtain rfl := Option.some.inj hm
        subst hQ
        exact W.zret hx hb hr rfl (fun t ht hW => ⟨⟨_, (), rfl, rfl, kb_h hP ht⟩, hS.F ht⟩) hS.2.2 dX2_readRow_17
set_option maxHeartbeats 4000000 in
set_option maxRecDepth 100000 in
theorem c_X6_answerIn (l : Launch) (dC : Nat → ClassId) (dI : Nat → Nat → Nat) (cI cJ cZ cQ : ClassId) (t sz : Nat) (p_0 : Int32) (p_1 : Int32) (p_2 : Int32) (p_3 : Int32) (o : Int32) (hm : m_X6_answerIn p_0 p_1 p_2 p_3 = some o) : Met l yX6_answerIn wsX6_answerIn { frames := 3, cells := 0, slots := 0, locals := 68 } (va_Pc [.int p_0, .int p_1, .int p_2, .int p_3] (cP (dC, dI) (kT cI cJ cZ cQ) t sz [])) (cQi (dC, dI) (va_A [] sz) o []) 0 0 (va_A [] sz) := by
  refine Met.ofW (cc := cX6_answerIn) (maxL := 4) (ret := (some .int)) (by decide) rfl ?_
  intro p e s m args below meth c s₁ B hml hv
  obtain ⟨rfl, hsz, hP, hK, hD0, hG⟩ := hv
  have hx := B.exec
  have hb := B.bytes
  have hr := B.returns
  have hts := atoms_spec (ws := wsX6_answerIn) B.pre
  have hown : s.vm.findClass RX6 = some m.cls := findClass_of_methodNamed B.named
  have hlocks := B.notSynchronized
  subst hsz
  have hD := hD0.self (sz := s.heap.size)
  generalize hAe : va_A [] s.heap.size = A at hD hG ⊢
  have hA : ∀ q : Nat, s.heap.size ≤ q → A q := fun q h => by rw [← hAe]; exact Or.inr h
  have hS : va_S A s.heap s.heap [] := va_S.rf
  have hl := lv_entry ([.int p_0, .int p_1, .int p_2, .int p_3]) (n := 4) (Nat.le_of_ble_eq_true rfl)
  rw [lg_entry_eq]
  generalize (lg_sl ([.int p_0, .int p_1, .int p_2, .int p_3]) ++ List.replicate (4 - (lg_sl ([.int p_0, .int p_1, .int p_2, .int p_3])).length) Slot.unset).toArray = ls at hl ⊢
  have hl : lv_has ls 4 [(0, .int p_0), (1, .int p_1), (2, .int p_2), (3, .int p_3)] := hl
  have nl38 := (hG.2.1 (RX6, 38, yX9_answerAt) (by decide +kernel) : va_Nw (.methodLinkNest RX6 38 yX9_answerAt "TrueOnceWeek") s)
  have ni38 := hts (.initialized RX9) (by decide +kernel)
  have ns38 := hts (.static yX9_answerAt) (by decide +kernel)
  refine kb_gen (fun Q hQ => ?_)
  unfold m_X6_answerIn at hm
  refine lv_iload_n hx hb dX6_answerIn_0 rfl (lv_at hl 3 rfl) ?_
  refine lv_iload_n hx hb dX6_answerIn_1 rfl (lv_at hl 0 rfl) ?_
  refine lv_iconst (v := (1 : Int32)) hx hb dX6_answerIn_2 (by decide) ?_
  refine lv_iload_n hx hb dX6_answerIn_3 rfl (lv_at hl 1 rfl) ?_
  refine lv_iload_n hx hb dX6_answerIn_4 rfl (lv_at hl 2 rfl) ?_
  obtain ⟨r1, ho2, hm⟩ := bd1_s hm
  refine kb_calli (Rv := r1) (va_runS (As := [.int p_0, .int (1 : Int32), .int p_1, .int p_2]) (rest := [.int p_3]) ⟨hx, hb, hml, hown, hts⟩ (c_X6_casesAnswered l dC dI cI cJ cZ cQ t s.heap.size p_0 (1 : Int32) p_1 p_2 (r1) ho2) (va_cwS 4 hts gX6_answerIn_X6_casesAnswered rfl rfl rfl (by decide +kernel) ⟨(Nat.le_of_ble_eq_true rfl), (Nat.le_of_ble_eq_true rfl)⟩) (kb_pre hK hG hP (kb_D hD rfl) hS hA [] rfl (by decide)) rfl rfl hl.1 rfl (lv_room (Nat.le_of_ble_eq_true rfl)) dX6_answerIn_5 ⟨Nat.zero_le _, Nat.zero_le _⟩) hP (kb_D hD rfl) hS hA [] rfl [] (w2 := []) rfl (by decide) (fun H locs hP hS => ?_)
  refine lv_iload_n hx hb dX6_answerIn_8 rfl (lv_at hl 0 rfl) ?_
  refine lv_iconst (v := (0 : Int32)) hx hb dX6_answerIn_9 (by decide) ?_
  refine lv_iload_n hx hb dX6_answerIn_10 rfl (lv_at hl 1 rfl) ?_
  refine lv_iload_n hx hb dX6_answerIn_11 rfl (lv_at hl 2 rfl) ?_
  obtain ⟨r3, ho4, hm⟩ := bd1_s hm
  refine kb_calli (Rv := r3) (va_runS (As := [.int p_0, .int (0 : Int32), .int p_1, .int p_2]) (rest := [.int r1, .int p_3]) ⟨hx, hb, hml, hown, hts⟩ (c_X6_casesAnswered l dC dI cI cJ cZ cQ t H.size p_0 (0 : Int32) p_1 p_2 (r3) ho4) (va_cwS 4 hts gX6_answerIn_X6_casesAnswered rfl rfl rfl (by decide +kernel) ⟨(Nat.le_of_ble_eq_true rfl), (Nat.le_of_ble_eq_true rfl)⟩) (kb_pre hK hG hP (kb_D hD rfl) hS hA [] rfl (by decide)) rfl rfl hl.1 rfl (lv_room (Nat.le_of_ble_eq_true rfl)) dX6_answerIn_12 ⟨Nat.zero_le _, Nat.zero_le _⟩) hP (kb_D hD rfl) hS hA [] rfl [] (w2 := []) rfl (by decide) (fun H locs hP hS => ?_)
  obtain ⟨r5, ho6, hm⟩ := bd1_s hm
  refine kb_calli (Rv := r5) (va_runSN (As := [.int p_3, .int r1, .int r3]) (rest := []) ⟨hx, hb, hml, hown, hts⟩ (c_X9_answerAt l dC dI cI cJ cZ cQ t H.size p_3 r1 r3 (r5) ho6) ⟨va_cnB (ret := (some .int)) (maxL := 3) 3 hts gX6_answerIn_X9_answerAt_n38 rfl rfl rfl nl38 ni38 (by decide +kernel) ⟨(Nat.le_of_ble_eq_true rfl), (Nat.le_of_ble_eq_true rfl)⟩, ns38, trivial⟩ (kb_pre hK hG hP (kb_D hD rfl) hS hA [] rfl (by decide)) rfl rfl hl.1 rfl (lv_room (Nat.le_of_ble_eq_true rfl)) dX6_answerIn_15 ⟨Nat.zero_le _, Nat.zero_le _⟩) hP (kb_D hD rfl) hS hA [] rfl [] (w2 := []) rfl (by decide) (fun H locs hP hS => ?_)
  obtain rfl := Option.some.inj hm
  subst hQ
  exact W.iret hx hb hr (fun t ht hW => ⟨⟨_, (), rfl, rfl, kb_h hP ht⟩, hS.F ht⟩) hS.2.2 dX6_answerIn_18
set_option maxHeartbeats 4000000 in
set_option maxRecDepth 100000 in
theorem c_X8_narrow_e01 (l : Launch) (dC : Nat → ClassId) (dI : Nat → Nat → Nat) (cI cJ cZ cQ : ClassId) (t sz : Nat) (a_p0 : Nat) (n_p0 : Nat) (v_p0 : (Nat → Int32)) (p_2 : Int32) (p_3 : Int32) (p_4 : Int32) (o : Nat → Int32) (hm : m_X8_narrow_e01 p_2 p_3 p_4 n_p0 v_p0 = some o) : Met l yX8_narrow wsX8_narrow { frames := 3, cells := 0, slots := 0, locals := 68 } (va_Pc [.ref a_p0, .ref a_p0, .int p_2, .int p_3, .int p_4] (cP (dC, dI) (kT cI cJ cZ cQ) t sz [aI cI a_p0 n_p0 v_p0])) (cQv (dC, dI) (va_A [aI cI a_p0 n_p0 v_p0] sz) [aI cI a_p0 n_p0 o]) 0 0 (va_A [aI cI a_p0 n_p0 v_p0] sz) := by
  refine Met.ofW (cc := cX8_narrow) (maxL := 7) (ret := none) (by decide) rfl ?_
  intro p e s m args below meth c s₁ B hml hv
  obtain ⟨rfl, hsz, hP, hK, hD0, hG⟩ := hv
  have hx := B.exec
  have hb := B.bytes
  have hr := B.returns
  have hts := atoms_spec (ws := wsX8_narrow) B.pre
  have hown : s.vm.findClass RX8 = some m.cls := findClass_of_methodNamed B.named
  have hlocks := B.notSynchronized
  subst hsz
  have hD := hD0.self (sz := s.heap.size)
  generalize hAe : va_A [aI cI a_p0 n_p0 v_p0] s.heap.size = A at hD hG ⊢
  have hA : ∀ q : Nat, s.heap.size ≤ q → A q := fun q h => by rw [← hAe]; exact Or.inr h
  have hS : va_S A s.heap s.heap [] := va_S.rf
  have hl := lv_entry ([.ref a_p0, .ref a_p0, .int p_2, .int p_3, .int p_4]) (n := 7) (Nat.le_of_ble_eq_true rfl)
  rw [lg_entry_eq]
  generalize (lg_sl ([.ref a_p0, .ref a_p0, .int p_2, .int p_3, .int p_4]) ++ List.replicate (7 - (lg_sl ([.ref a_p0, .ref a_p0, .int p_2, .int p_3, .int p_4])).length) Slot.unset).toArray = ls at hl ⊢
  have hl : lv_has ls 7 [(0, .ref a_p0), (1, .ref a_p0), (2, .int p_2), (3, .int p_3), (4, .int p_4)] := hl
  have ml24 := hts (.methodLink RX8 24 Lib.Math.min.name) (by decide +kernel)
  have ms24 := hts (.static Lib.Math.min.name) (by decide +kernel)
  have mi24 := hts (.initialized "java/lang/Math") (by decide +kernel)
  have mc24 := hts (.code Lib.Math.min.name Lib.Math.min.code 2 (some .int)) (by decide +kernel)
  refine kb_gen (fun Q hQ => ?_)
  unfold m_X8_narrow_e01 at hm
  refine lv_aload_n hx hb dX8_narrow_0 rfl (lv_at hl 0 rfl) ?_
  refine va_alen (v := (Int32.ofNat n_p0)) hx hb hK hP 0 0 rfl rfl rfl dX8_narrow_1 ?_
  refine lv_aload_n hx hb dX8_narrow_2 rfl (lv_at hl 1 rfl) ?_
  refine va_alen (v := (Int32.ofNat n_p0)) hx hb hK hP 0 0 rfl rfl rfl dX8_narrow_3 ?_
  refine va_mmin hx hb (by rw [hml]; exact hl.1.symm) hown ml24 ms24 mi24 mc24 (Nat.le_of_ble_eq_true rfl) (Nat.le_of_ble_eq_true rfl) (Nat.zero_le _) (Nat.zero_le _) dX8_narrow_4 ?_
  refine lv_topi (fun x1 ex1 => ?_)
  replace hm := nm_t ex1 hm
  refine lv_istore (lv' := [(5, .int x1), (0, .ref a_p0), (1, .ref a_p0), (2, .int p_2), (3, .int p_3), (4, .int p_4)]) hx hb dX8_narrow_7 hl (by decide) rfl (fun ls hl => ?_)
  refine lv_iconst (v := (0 : Int32)) hx hb dX8_narrow_9 (by decide) ?_
  refine lv_istore (lv' := [(6, .int (0 : Int32)), (5, .int x1), (0, .ref a_p0), (1, .ref a_p0), (2, .int p_2), (3, .int p_3), (4, .int p_4)]) hx hb dX8_narrow_10 hl (by decide) rfl (fun ls hl => ?_)
  have lp12 : ∀ (n12 : Nat) (x2 : Int32) (w3 : (Nat → Int32)) (k12 : (Nat → Int32) → Option (Nat → Int32)) (H : Heap) (locs : List Loc) (ls : Array Slot), L_X8_narrow_e01_12 p_2 p_3 p_4 n_p0 x1 n12 x2 w3 k12 = some o → (∀ (w4 : (Nat → Int32)) (H : Heap) (locs : List Loc) (ls : Array Slot), k12 w4 = some o → va_P (dC, dI) vwCl [aI cI a_p0 n_p0 w4] H → va_S A s.heap H locs → lv_has ls 7 [] → W p l e (headSpec wsX8_narrow { frames := 3, cells := 0, slots := 0, locals := 68 }).room s m [.ref a_p0, .ref a_p0, .int p_2, .int p_3, .int p_4].toArray below meth c H locs 0 0 Q (F0 m 43 ls [])) → va_P (dC, dI) vwCl [aI cI a_p0 n_p0 w3] H → va_S A s.heap H locs → lv_has ls 7 [(0, .ref a_p0), (1, .ref a_p0), (2, .int p_2), (3, .int p_3), (4, .int p_4), (5, .int x1), (6, .int x2)] → W p l e (headSpec wsX8_narrow { frames := 3, cells := 0, slots := 0, locals := 68 }).room s m [.ref a_p0, .ref a_p0, .int p_2, .int p_3, .int p_4].toArray below meth c H locs 0 0 Q (F0 m 12 ls []) := by
    intro n12
    induction n12 with
    | zero =>
      intro x2 w3 k12 H locs ls hm
      cases (show (none : Option (Nat → Int32)) = some o from hm)
    | succ n12 ih12 =>
      intro x2 w3 k12 H locs ls hm hk12 hP hS hl
      rw [L_X8_narrow_e01_12.eq_2] at hm
      refine lv_iload hx hb dX8_narrow_12 (lv_at hl 6 rfl) ?_
      refine lv_iload hx hb dX8_narrow_14 (lv_at hl 5 rfl) ?_
      refine lv_icmp_ge (tgt := 43) hx hb dX8_narrow_16 (by decide) (fun c5 => ?_) (fun c5 => ?_)
      · replace hm := ite_t c5 hm
        exact hk12 w3 _ _ _ hm hP hS (lv_sub hl [] rfl)
      · replace hm := ite_f c5 hm
        refine lv_aload_n hx hb dX8_narrow_19 rfl (lv_at hl 1 rfl) ?_
        refine lv_iload hx hb dX8_narrow_20 (lv_at hl 6 rfl) ?_
        refine lv_aload_n hx hb dX8_narrow_22 rfl (lv_at hl 0 rfl) ?_
        refine lv_iload hx hb dX8_narrow_23 (lv_at hl 6 rfl) ?_
        obtain ⟨h6, hm⟩ := gd_s hm
        refine va_iald hx hb hK hP 0 0 rfl rfl (inB_s h6) dX8_narrow_25 ?_
        refine lv_iload_n hx hb dX8_narrow_26 rfl (lv_at hl 2 rfl) ?_
        refine lv_iload_n hx hb dX8_narrow_27 rfl (lv_at hl 3 rfl) ?_
        refine lv_iload hx hb dX8_narrow_28 (lv_at hl 4 rfl) ?_
        refine lv_iload hx hb dX8_narrow_30 (lv_at hl 6 rfl) ?_
        obtain ⟨r7, ho8, hm⟩ := bd1_s hm
        refine kb_calli (Rv := r7) (va_runS (As := [.int p_2, .int p_3, .int p_4, .int x2]) (rest := [.int (w3 (Int32.toNatClampNeg x2)), .int x2, .ref a_p0]) ⟨hx, hb, hml, hown, hts⟩ (c_X6_casesAnswered l dC dI cI cJ cZ cQ t H.size p_2 p_3 p_4 x2 (r7) ho8) (va_cwS 4 hts gX8_narrow_X6_casesAnswered rfl rfl rfl (by decide +kernel) ⟨(Nat.le_of_ble_eq_true rfl), (Nat.le_of_ble_eq_true rfl)⟩) (kb_pre hK hG hP (kb_D hD rfl) hS hA [] rfl (by decide)) rfl rfl hl.1 rfl (lv_room (Nat.le_of_ble_eq_true rfl)) dX8_narrow_32 ⟨Nat.zero_le _, Nat.zero_le _⟩) hP (kb_D hD rfl) hS hA [] rfl [(false, 0)] (w2 := [aI cI a_p0 n_p0 w3]) rfl (by decide) (fun H locs hP hS => ?_)
        refine lv_iand hx hb dX8_narrow_35 ?_
        obtain ⟨h9, hm⟩ := gd_s hm
        refine va_iast hx hb hK hP (kb_D hD rfl) hS 0 0 rfl rfl (inB_s h9) dX8_narrow_36 (fun H locs hP _ hS => ?_)
        have hP : va_P (dC, dI) vwCl [aI cI a_p0 n_p0 (upd w3 (Int32.toNatClampNeg x2) ((w3 (Int32.toNatClampNeg x2)) &&& r7))] H := hP
        obtain ⟨x10, ex10⟩ : ∃ y : Int32, y = x2 + (1 : Int32) := ⟨_, rfl⟩
        replace hm := nm_t ex10 hm
        refine lv_iinc (v := x10) (lv' := [(6, .int x10), (0, .ref a_p0), (1, .ref a_p0), (2, .int p_2), (3, .int p_3), (4, .int p_4), (5, .int x1)]) hx hb dX8_narrow_37 hl (k := 6) rfl (by rw [ex10]; rfl) (by decide) rfl (fun ls hl => ?_)
        refine lv_goto (tgt := 12) hx hb dX8_narrow_40 (by decide) ?_
        exact ih12 x10 (upd w3 (Int32.toNatClampNeg x2) ((w3 (Int32.toNatClampNeg x2)) &&& r7)) k12 _ _ _ hm hk12 hP hS (lv_sub hl [1, 2, 3, 4, 5, 6, 0] rfl)
  refine lp12 1024 (0 : Int32) v_p0 _ _ _ _ hm (fun w4 H locs ls hm hP hS hl => ?_) hP hS (lv_sub hl [2, 3, 4, 5, 6, 1, 0] rfl)
  obtain rfl := Option.some.inj hm
  subst hQ
  exact W.vret hx hb hr (fun t ht hW => ⟨⟨(), rfl, trivial, kb_h hP ht⟩, hS.F ht⟩) hS.2.2 dX8_narrow_43
set_option maxHeartbeats 4000000 in
set_option maxRecDepth 100000 in
theorem c_X2_leftBehindRow (l : Launch) (dC : Nat → ClassId) (dI : Nat → Nat → Nat) (cI cJ cZ cQ : ClassId) (t sz : Nat) (a_th : Nat) (a_left : Nat) (a_p1 : Nat) (a_p1_known : Nat) (a_left_r0 : Nat) (a_row : Nat) (a_left_r1 : Nat) (a_left_r2 : Nat) (a_left_r3 : Nat) (v_p1_date : Int32) (v_p1_trueDay : Int32) (v_p1_wasAsked : Int32) (v_p1_clothState : Int32) (v_p1_cracks : Int32) (v_p1_known : (Nat → Int32)) (v_left_r0 : (Nat → Int32)) (v_row : (Nat → Int32)) (p_2 : Int32) (p_3 : Int32) (p_4 : Int32) (o : Int32 × (Nat → Int32)) (hm : m_X2_leftBehindRow p_2 p_3 p_4 v_p1_date v_p1_known v_left_r0 v_row = some o) : Met l yX2_leftBehindRow wsX2_leftBehindRow { frames := 4, cells := 0, slots := 0, locals := 100 } (va_Pc [.ref a_th, .ref a_p1, .int p_2, .int p_3, .int p_4] (cP (dC, dI) (kT cI cJ cZ cQ) t sz [oX2 a_th (.ref a_left) (.ref a_row), aQ cQ a_left 4 (q4 a_left_r0 a_left_r1 a_left_r2 a_left_r3), oX4 a_p1 (.int v_p1_date) (.int v_p1_trueDay) (.int v_p1_wasAsked) (.int v_p1_clothState) (.int v_p1_cracks) (.ref a_p1_known), aI cI a_p1_known 7 v_p1_known, aI cI a_left_r0 7 v_left_r0, aI cI a_row 5 v_row])) (cQi (dC, dI) (va_A [oX2 a_th (.ref a_left) (.ref a_row), aQ cQ a_left 4 (q4 a_left_r0 a_left_r1 a_left_r2 a_left_r3), oX4 a_p1 (.int v_p1_date) (.int v_p1_trueDay) (.int v_p1_wasAsked) (.int v_p1_clothState) (.int v_p1_cracks) (.ref a_p1_known), aI cI a_p1_known 7 v_p1_known, aI cI a_left_r0 7 v_left_r0, aI cI a_row 5 v_row] sz) o.1 [oX2 a_th (.ref a_left) (.ref a_row), aQ cQ a_left 4 (q4 a_left_r0 a_left_r1 a_left_r2 a_left_r3), oX4 a_p1 (.int v_p1_date) (.int v_p1_trueDay) (.int v_p1_wasAsked) (.int v_p1_clothState) (.int v_p1_cracks) (.ref a_p1_known), aI cI a_p1_known 7 v_p1_known, aI cI a_left_r0 7 (o.2), aI cI a_row 5 v_row]) 0 0 (va_A [oX2 a_th (.ref a_left) (.ref a_row), aQ cQ a_left 4 (q4 a_left_r0 a_left_r1 a_left_r2 a_left_r3), oX4 a_p1 (.int v_p1_date) (.int v_p1_trueDay) (.int v_p1_wasAsked) (.int v_p1_clothState) (.int v_p1_cracks) (.ref a_p1_known), aI cI a_p1_known 7 v_p1_known, aI cI a_left_r0 7 v_left_r0, aI cI a_row 5 v_row] sz) := by
  refine Met.ofW (cc := cX2_leftBehindRow) (maxL := 9) (ret := (some .int)) (by decide) rfl ?_
  intro p e s m args below meth c s₁ B hml hv
  obtain ⟨rfl, hsz, hP, hK, hD0, hG⟩ := hv
  have hx := B.exec
  have hb := B.bytes
  have hr := B.returns
  have hts := atoms_spec (ws := wsX2_leftBehindRow) B.pre
  have hown : s.vm.findClass RX2 = some m.cls := findClass_of_methodNamed B.named
  have hlocks := B.notSynchronized
  subst hsz
  have hD := hD0.self (sz := s.heap.size)
  generalize hAe : va_A [oX2 a_th (.ref a_left) (.ref a_row), aQ cQ a_left 4 (q4 a_left_r0 a_left_r1 a_left_r2 a_left_r3), oX4 a_p1 (.int v_p1_date) (.int v_p1_trueDay) (.int v_p1_wasAsked) (.int v_p1_clothState) (.int v_p1_cracks) (.ref a_p1_known), aI cI a_p1_known 7 v_p1_known, aI cI a_left_r0 7 v_left_r0, aI cI a_row 5 v_row] s.heap.size = A at hD hG ⊢
  have hA : ∀ q : Nat, s.heap.size ≤ q → A q := fun q h => by rw [← hAe]; exact Or.inr h
  have hS : va_S A s.heap s.heap [] := va_S.rf
  have hl := lv_entry ([.ref a_th, .ref a_p1, .int p_2, .int p_3, .int p_4]) (n := 9) (Nat.le_of_ble_eq_true rfl)
  rw [lg_entry_eq]
  generalize (lg_sl ([.ref a_th, .ref a_p1, .int p_2, .int p_3, .int p_4]) ++ List.replicate (9 - (lg_sl ([.ref a_th, .ref a_p1, .int p_2, .int p_3, .int p_4])).length) Slot.unset).toArray = ls at hl ⊢
  have hl : lv_has ls 9 [(0, .ref a_th), (1, .ref a_p1), (2, .int p_2), (3, .int p_3), (4, .int p_4)] := hl
  have iX2 : ∀ w ∈ wsX20, w ∈ wsX2_leftBehindRow := fun _ h => List.mem_cons_of_mem _ (List.mem_append_left _ (List.mem_append_right _ h))
  have iX4 : ∀ w ∈ wsX40, w ∈ wsX2_leftBehindRow := fun _ h => List.mem_cons_of_mem _ (List.mem_append_right _ h)
  have f11 := hts (.fieldLink RX2 11 "TrueOnceWeek$Foresight" "left" "[[I") (by decide +kernel)
  have f20 := va_Nw.use (A := [.ref a_th, .ref a_p1, .int p_2, .int p_3, .int p_4].toArray) (w := .fieldLinkNest RX2 20 "TrueOnceWeek$Moment" "known" "[I" "TrueOnceWeek") rfl (hG.1 (RX2, 20, "TrueOnceWeek$Moment", "known", "[I") (by decide +kernel))
  have ml25 := hts (.methodLink RX2 25 arraycopyName) (by decide +kernel)
  have mn25 := hts (.native arraycopyName) (by decide +kernel)
  have ms25 := hts (.static arraycopyName) (by decide +kernel)
  have mi25 := hts (.initialized "java/lang/System") (by decide +kernel)
  have f31 := va_Nw.use (A := [.ref a_th, .ref a_p1, .int p_2, .int p_3, .int p_4].toArray) (w := .fieldLinkNest RX2 31 "TrueOnceWeek$Moment" "date" "I" "TrueOnceWeek") rfl (hG.1 (RX2, 31, "TrueOnceWeek$Moment", "date", "I") (by decide +kernel))
  have f16 := hts (.fieldLink RX2 16 "TrueOnceWeek$Foresight" "row" "[I") (by decide +kernel)
  refine kb_gen (fun Q hQ => ?_)
  unfold m_X2_leftBehindRow at hm
  refine lv_aload_n hx hb dX2_leftBehindRow_0 rfl (lv_at hl 0 rfl) ?_
  refine va_get (D := (dC, dI)) (ci := 2) (v := .ref a_left) (C := RX2) (T := TX2) (N := 2) hx hb hts iX2 hown hK hP 0 rfl rfl 0 (by decide) f11 (fun _ h9 => h9) rfl dX2_leftBehindRow_1 ?_
  refine lv_iconst (v := (0 : Int32)) hx hb dX2_leftBehindRow_4 (by decide) ?_
  refine kb_aald (y := a_left_r0) hx hb hK hP 1 3 rfl rfl (inB_s (by decide)) rfl dX2_leftBehindRow_5 ?_
  refine lv_astore (lv' := [(5, .ref a_left_r0), (0, .ref a_th), (1, .ref a_p1), (2, .int p_2), (3, .int p_3), (4, .int p_4)]) hx hb dX2_leftBehindRow_6 hl (by decide) rfl (fun ls hl => ?_)
  refine lv_aload_n hx hb dX2_leftBehindRow_8 rfl (lv_at hl 2 rfl) ?_
  refine va_getN (D := (dC, dI)) (ci := 4) (v := .ref a_p1_known) (C := RX4) (T := TX4) (N := 6) hx hb hts iX4 hown hK hP 2 rfl rfl 5 (by decide) f20 (fun _ h9 => h9) rfl dX2_leftBehindRow_9 ?_
  refine lv_iconst (v := (0 : Int32)) hx hb dX2_leftBehindRow_12 (by decide) ?_
  refine lv_aload hx hb dX2_leftBehindRow_13 (lv_at hl 0 rfl) ?_
  refine lv_iconst (v := (0 : Int32)) hx hb dX2_leftBehindRow_15 (by decide) ?_
  refine lv_bipush (v := (7 : Int32)) hx hb dX2_leftBehindRow_16 (by decide) ?_
  obtain ⟨h1, hm⟩ := gd_s hm
  obtain ⟨hc1, hc2, hc3, hc4, hc5⟩ := cpB_s h1
  refine va_copyi (ty := .int) hx hb (by rw [hml]; exact hl.1.symm) hown ml25 mn25 ms25 mi25 hK hP (kb_D hD rfl) hS 3 4 0 0 rfl rfl rfl rfl rfl hc1 hc2 hc3 hc4 hc5 (fun _ _ => rfl) (Nat.le_of_ble_eq_true rfl) (Nat.le_of_ble_eq_true rfl) dX2_leftBehindRow_18 (fun H locs hP _ hS => ?_)
  have hP : va_P (dC, dI) vwCl [oX2 a_th (.ref a_left) (.ref a_row), aQ cQ a_left 4 (q4 a_left_r0 a_left_r1 a_left_r2 a_left_r3), oX4 a_p1 (.int v_p1_date) (.int v_p1_trueDay) (.int v_p1_wasAsked) (.int v_p1_clothState) (.int v_p1_cracks) (.ref a_p1_known), aI cI a_p1_known 7 v_p1_known, aI cI a_left_r0 7 (va_cpy v_p1_known v_left_r0 (Int32.toNatClampNeg (0 : Int32)) (Int32.toNatClampNeg (0 : Int32)) (Int32.toNatClampNeg (7 : Int32))), aI cI a_row 5 v_row] H := hP
  refine lv_iconst (v := (0 : Int32)) hx hb dX2_leftBehindRow_21 (by decide) ?_
  refine lv_istore (lv' := [(6, .int (0 : Int32)), (5, .ref a_left_r0), (0, .ref a_th), (1, .ref a_p1), (2, .int p_2), (3, .int p_3), (4, .int p_4)]) hx hb dX2_leftBehindRow_22 hl (by decide) rfl (fun ls hl => ?_)
  have lp24 : ∀ (n24 : Nat) (x2 : Int32) (w3 : (Nat → Int32)) (k24 : (Nat → Int32) → Option (Int32 × (Nat → Int32))) (H : Heap) (locs : List Loc) (ls : Array Slot), L_X2_leftBehindRow_24 v_p1_date v_row p_2 p_3 p_4 n24 x2 w3 k24 = some o → (∀ (w4 : (Nat → Int32)) (H : Heap) (locs : List Loc) (ls : Array Slot), k24 w4 = some o → va_P (dC, dI) vwCl [oX2 a_th (.ref a_left) (.ref a_row), aQ cQ a_left 4 (q4 a_left_r0 a_left_r1 a_left_r2 a_left_r3), oX4 a_p1 (.int v_p1_date) (.int v_p1_trueDay) (.int v_p1_wasAsked) (.int v_p1_clothState) (.int v_p1_cracks) (.ref a_p1_known), aI cI a_p1_known 7 v_p1_known, aI cI a_left_r0 7 w4, aI cI a_row 5 v_row] H → va_S A s.heap H locs → lv_has ls 9 [(5, .ref a_left_r0)] → W p l e (headSpec wsX2_leftBehindRow { frames := 4, cells := 0, slots := 0, locals := 100 }).room s m [.ref a_th, .ref a_p1, .int p_2, .int p_3, .int p_4].toArray below meth c H locs 0 0 Q (F0 m 89 ls [])) → va_P (dC, dI) vwCl [oX2 a_th (.ref a_left) (.ref a_row), aQ cQ a_left 4 (q4 a_left_r0 a_left_r1 a_left_r2 a_left_r3), oX4 a_p1 (.int v_p1_date) (.int v_p1_trueDay) (.int v_p1_wasAsked) (.int v_p1_clothState) (.int v_p1_cracks) (.ref a_p1_known), aI cI a_p1_known 7 v_p1_known, aI cI a_left_r0 7 w3, aI cI a_row 5 v_row] H → va_S A s.heap H locs → lv_has ls 9 [(0, .ref a_th), (1, .ref a_p1), (2, .int p_2), (3, .int p_3), (4, .int p_4), (5, .ref a_left_r0), (6, .int x2)] → W p l e (headSpec wsX2_leftBehindRow { frames := 4, cells := 0, slots := 0, locals := 100 }).room s m [.ref a_th, .ref a_p1, .int p_2, .int p_3, .int p_4].toArray below meth c H locs 0 0 Q (F0 m 24 ls []) := by
    intro n24
    induction n24 with
    | zero =>
      intro x2 w3 k24 H locs ls hm
      cases (show (none : Option (Int32 × (Nat → Int32))) = some o from hm)
    | succ n24 ih24 =>
      intro x2 w3 k24 H locs ls hm hk24 hP hS hl
      rw [L_X2_leftBehindRow_24.eq_2] at hm
      refine lv_iload hx hb dX2_leftBehindRow_24 (lv_at hl 6 rfl) ?_
      refine lv_iload_n hx hb dX2_leftBehindRow_26 rfl (lv_at hl 2 rfl) ?_
      refine lv_icmp_ge (tgt := 89) hx hb dX2_leftBehindRow_27 (by decide) (fun c5 => ?_) (fun c5 => ?_)
      · replace hm := ite_t c5 hm
        exact hk24 w3 _ _ _ hm hP hS (lv_sub hl [5] rfl)
      · replace hm := ite_f c5 hm
        refine lv_iload hx hb dX2_leftBehindRow_30 (lv_at hl 6 rfl) ?_
        refine lv_iconst (v := (5 : Int32)) hx hb dX2_leftBehindRow_32 (by decide) ?_
        refine lv_icmp_ge (tgt := 89) hx hb dX2_leftBehindRow_33 (by decide) (fun c6 => ?_) (fun c6 => ?_)
        · replace hm := ite_t c6 hm
          exact hk24 w3 _ _ _ hm hP hS (lv_sub hl [5] rfl)
        · replace hm := ite_f c6 hm
          refine lv_aload_n hx hb dX2_leftBehindRow_36 rfl (lv_at hl 1 rfl) ?_
          refine va_getN (D := (dC, dI)) (ci := 4) (v := .int v_p1_date) (C := RX4) (T := TX4) (N := 6) hx hb hts iX4 hown hK hP 2 rfl rfl 0 (by decide) f31 (fun _ h9 => h9) rfl dX2_leftBehindRow_37 ?_
          refine lv_iload hx hb dX2_leftBehindRow_40 (lv_at hl 6 rfl) ?_
          refine lv_iadd hx hb dX2_leftBehindRow_42 ?_
          refine lv_bipush (v := (7 : Int32)) hx hb dX2_leftBehindRow_43 (by decide) ?_
          refine lv_irem hx hb dX2_leftBehindRow_45 (by decide) ?_
          refine lv_topi (fun x7 ex7 => ?_)
          replace hm := nm_t ex7 hm
          refine lv_istore (lv' := [(7, .int x7), (0, .ref a_th), (1, .ref a_p1), (2, .int p_2), (3, .int p_3), (4, .int p_4), (5, .ref a_left_r0), (6, .int x2)]) hx hb dX2_leftBehindRow_46 hl (by decide) rfl (fun ls hl => ?_)
          refine lv_aload_n hx hb dX2_leftBehindRow_48 rfl (lv_at hl 1 rfl) ?_
          refine va_get (D := (dC, dI)) (ci := 2) (v := .ref a_row) (C := RX2) (T := TX2) (N := 2) hx hb hts iX2 hown hK hP 0 rfl rfl 1 (by decide) f16 (fun _ h9 => h9) rfl dX2_leftBehindRow_49 ?_
          refine lv_iload hx hb dX2_leftBehindRow_52 (lv_at hl 7 rfl) ?_
          obtain ⟨h8, hm⟩ := gd_s hm
          refine va_iald hx hb hK hP 5 0 rfl rfl (inB_s h8) dX2_leftBehindRow_54 ?_
          refine lv_iload hx hb dX2_leftBehindRow_55 (lv_at hl 0 rfl) ?_
          refine lv_iload_n hx hb dX2_leftBehindRow_57 rfl (lv_at hl 4 rfl) ?_
          refine lv_iload hx hb dX2_leftBehindRow_58 (lv_at hl 5 rfl) ?_
          obtain ⟨r9, ho10, hm⟩ := bd1_s hm
          refine kb_calli (Rv := r9) (va_runS (As := [.int (v_row (Int32.toNatClampNeg x2)), .int x7, .int p_3, .int p_4]) (rest := []) ⟨hx, hb, hml, hown, hts⟩ (c_X6_answerIn l dC dI cI cJ cZ cQ t H.size (v_row (Int32.toNatClampNeg x2)) x7 p_3 p_4 (r9) ho10) (va_cwS 4 hts gX2_leftBehindRow_X6_answerIn rfl rfl rfl (by decide +kernel) ⟨(Nat.le_of_ble_eq_true rfl), (Nat.le_of_ble_eq_true rfl)⟩) (kb_pre hK hG hP (kb_D hD rfl) hS hA [] rfl (by decide)) rfl rfl hl.1 rfl (lv_room (Nat.le_of_ble_eq_true rfl)) dX2_leftBehindRow_60 ⟨Nat.zero_le _, Nat.zero_le _⟩) hP (kb_D hD rfl) hS hA [] rfl [(false, 0), (false, 1), (false, 2), (false, 3), (false, 4), (false, 5)] (w2 := [oX2 a_th (.ref a_left) (.ref a_row), aQ cQ a_left 4 (q4 a_left_r0 a_left_r1 a_left_r2 a_left_r3), oX4 a_p1 (.int v_p1_date) (.int v_p1_trueDay) (.int v_p1_wasAsked) (.int v_p1_clothState) (.int v_p1_cracks) (.ref a_p1_known), aI cI a_p1_known 7 v_p1_known, aI cI a_left_r0 7 w3, aI cI a_row 5 v_row]) rfl (by decide) (fun H locs hP hS => ?_)
          refine lv_istore (lv' := [(8, .int r9), (7, .int x7), (0, .ref a_th), (1, .ref a_p1), (2, .int p_2), (3, .int p_3), (4, .int p_4), (5, .ref a_left_r0), (6, .int x2)]) hx hb dX2_leftBehindRow_63 hl (by decide) rfl (fun ls hl => ?_)
          refine lv_aload hx hb dX2_leftBehindRow_65 (lv_at hl 7 rfl) ?_
          refine lv_aload hx hb dX2_leftBehindRow_67 (lv_at hl 7 rfl) ?_
          refine lv_aload_n hx hb dX2_leftBehindRow_69 rfl (lv_at hl 2 rfl) ?_
          refine va_get (D := (dC, dI)) (ci := 2) (v := .ref a_row) (C := RX2) (T := TX2) (N := 2) hx hb hts iX2 hown hK hP 0 rfl rfl 1 (by decide) f16 (fun _ h9 => h9) rfl dX2_leftBehindRow_70 ?_
          refine lv_iload hx hb dX2_leftBehindRow_73 (lv_at hl 8 rfl) ?_
          obtain ⟨h11, hm⟩ := gd_s hm
          refine va_iald hx hb hK hP 5 0 rfl rfl (inB_s h11) dX2_leftBehindRow_75 ?_
          refine lv_iload hx hb dX2_leftBehindRow_76 (lv_at hl 0 rfl) ?_
          refine lv_iload hx hb dX2_leftBehindRow_78 (lv_at hl 1 rfl) ?_
          obtain ⟨w12, ho13, hm⟩ := bd1_s hm
          refine kb_callv (va_runS (As := [.ref a_left_r0, .ref a_left_r0, .int (v_row (Int32.toNatClampNeg x2)), .int r9, .int x7]) (rest := []) ⟨hx, hb, hml, hown, hts⟩ (c_X8_narrow_e01 l dC dI cI cJ cZ cQ t H.size a_left_r0 7 w3 (v_row (Int32.toNatClampNeg x2)) r9 x7 (w12) ho13) (va_cwS 5 hts gX2_leftBehindRow_X8_narrow rfl rfl rfl (by decide +kernel) ⟨(Nat.le_of_ble_eq_true rfl), (Nat.le_of_ble_eq_true rfl)⟩) (kb_pre hK hG hP (kb_D hD rfl) hS hA [4] rfl (by decide)) rfl rfl hl.1 rfl (lv_room (Nat.le_of_ble_eq_true rfl)) dX2_leftBehindRow_80 ⟨Nat.zero_le _, Nat.zero_le _⟩) hP (kb_D hD rfl) hS hA [4] rfl [(false, 0), (false, 1), (false, 2), (false, 3), (true, 0), (false, 5)] (w2 := [oX2 a_th (.ref a_left) (.ref a_row), aQ cQ a_left 4 (q4 a_left_r0 a_left_r1 a_left_r2 a_left_r3), oX4 a_p1 (.int v_p1_date) (.int v_p1_trueDay) (.int v_p1_wasAsked) (.int v_p1_clothState) (.int v_p1_cracks) (.ref a_p1_known), aI cI a_p1_known 7 v_p1_known, aI cI a_left_r0 7 w12, aI cI a_row 5 v_row]) rfl (by decide) (fun H locs hP hS => ?_)
          obtain ⟨x14, ex14⟩ : ∃ y : Int32, y = x2 + (1 : Int32) := ⟨_, rfl⟩
          replace hm := nm_t ex14 hm
          refine lv_iinc (v := x14) (lv' := [(6, .int x14), (8, .int r9), (7, .int x7), (0, .ref a_th), (1, .ref a_p1), (2, .int p_2), (3, .int p_3), (4, .int p_4), (5, .ref a_left_r0)]) hx hb dX2_leftBehindRow_83 hl (k := 8) rfl (by rw [ex14]; rfl) (by decide) rfl (fun ls hl => ?_)
          refine lv_goto (tgt := 24) hx hb dX2_leftBehindRow_86 (by decide) ?_
          exact ih24 x14 w12 k24 _ _ _ hm hk24 hP hS (lv_sub hl [3, 4, 5, 6, 7, 8, 0] rfl)
  refine lp24 1024 (0 : Int32) (va_cpy v_p1_known v_left_r0 (Int32.toNatClampNeg (0 : Int32)) (Int32.toNatClampNeg (0 : Int32)) (Int32.toNatClampNeg (7 : Int32))) _ _ _ _ hm (fun w4 H locs ls hm hP hS hl => ?_) hP hS (lv_sub hl [2, 3, 4, 5, 6, 1, 0] rfl)
  refine lv_aload hx hb dX2_leftBehindRow_89 (lv_at hl 0 rfl) ?_
  obtain ⟨r15, ho16, hm⟩ := bd1_s hm
  refine kb_calli (Rv := r15) (va_runS (As := [.ref a_left_r0]) (rest := []) ⟨hx, hb, hml, hown, hts⟩ (c_X8_count l dC dI cI cJ cZ cQ t H.size a_left_r0 7 w4 (r15) ho16) (va_cwS 1 hts gX2_leftBehindRow_X8_count rfl rfl rfl (by decide +kernel) ⟨(Nat.le_of_ble_eq_true rfl), (Nat.le_of_ble_eq_true rfl)⟩) (kb_pre hK hG hP (kb_D hD rfl) hS hA [4] rfl (by decide)) rfl rfl hl.1 rfl (lv_room (Nat.le_of_ble_eq_true rfl)) dX2_leftBehindRow_91 ⟨Nat.zero_le _, Nat.zero_le _⟩) hP (kb_D hD rfl) hS hA [4] rfl [(false, 0), (false, 1), (false, 2), (false, 3), (true, 0), (false, 5)] (w2 := [oX2 a_th (.ref a_left) (.ref a_row), aQ cQ a_left 4 (q4 a_left_r0 a_left_r1 a_left_r2 a_left_r3), oX4 a_p1 (.int v_p1_date) (.int v_p1_trueDay) (.int v_p1_wasAsked) (.int v_p1_clothState) (.int v_p1_cracks) (.ref a_p1_known), aI cI a_p1_known 7 v_p1_known, aI cI a_left_r0 7 w4, aI cI a_row 5 v_row]) rfl (by decide) (fun H locs hP hS => ?_)
  obtain rfl := Option.some.inj hm
  subst hQ
  exact W.iret hx hb hr (fun t ht hW => ⟨⟨_, (), rfl, rfl, kb_h hP ht⟩, hS.F ht⟩) hS.2.2 dX2_leftBehindRow_94
set_option maxHeartbeats 4000000 in
set_option maxRecDepth 100000 in
theorem c_X9_choice (l : Launch) (dC : Nat → ClassId) (dI : Nat → Nat → Nat) (cI cJ cZ cQ : ClassId) (t sz : Nat) (a_th : Nat) (a_foresight : Nat) (a_theCastle : Nat) (a_foresight_row : Nat) (a_foresight_left : Nat) (a_now : Nat) (a_now_known : Nat) (a_foresight_left_r0 : Nat) (a_foresight_left_r1 : Nat) (a_foresight_left_r2 : Nat) (a_foresight_left_r3 : Nat) (q_theText : Value) (q_theQuestion : Value) (q_theActs : Value) (q_theTold : Value) (q_keptMoments : Value) (q_isKept : Value) (q_marchWorlds : Value) (v_theSeed : Int64) (v_theCastle_facts : Int32) (v_theCastle_so : Int32) (v_theCastle_common : Int32) (v_theCastle_cases : Int32) (v_theCastle_firstTrueDay : Int32) (v_foresight_row : (Nat → Int32)) (v_now_date : Int32) (v_now_trueDay : Int32) (v_now_wasAsked : Int32) (v_now_clothState : Int32) (v_now_cracks : Int32) (v_now_known : (Nat → Int32)) (v_foresight_left_r0 : (Nat → Int32)) (p_1 : Int32) (p_2 : Int64) (p_3 : Int32) (o : Int32 × (Nat → Int32) × (Nat → Int32)) (hm : m_X9_choice p_1 p_2 p_3 v_theCastle_facts v_theCastle_so v_foresight_row v_now_date v_now_known v_foresight_left_r0 = some o) : Met l yX9_choice wsX9_choice { frames := 5, cells := 0, slots := 0, locals := 128 } (va_Pc [.ref a_th, .int p_1, .long p_2, .int p_3] (cP (dC, dI) (kT cI cJ cZ cQ) t sz [oX9 a_th q_theText q_theQuestion (.ref a_theCastle) (.ref a_now) q_theActs q_theTold (.ref a_foresight) q_keptMoments q_isKept q_marchWorlds (.long v_theSeed), oX2 a_foresight (.ref a_foresight_left) (.ref a_foresight_row), oX1 a_theCastle (.int v_theCastle_facts) (.int v_theCastle_so) (.int v_theCastle_common) (.int v_theCastle_cases) (.int v_theCastle_firstTrueDay), aI cI a_foresight_row 5 v_foresight_row, aQ cQ a_foresight_left 4 (q4 a_foresight_left_r0 a_foresight_left_r1 a_foresight_left_r2 a_foresight_left_r3), oX4 a_now (.int v_now_date) (.int v_now_trueDay) (.int v_now_wasAsked) (.int v_now_clothState) (.int v_now_cracks) (.ref a_now_known), aI cI a_now_known 7 v_now_known, aI cI a_foresight_left_r0 7 v_foresight_left_r0])) (cQi (dC, dI) (va_A [oX9 a_th q_theText q_theQuestion (.ref a_theCastle) (.ref a_now) q_theActs q_theTold (.ref a_foresight) q_keptMoments q_isKept q_marchWorlds (.long v_theSeed), oX2 a_foresight (.ref a_foresight_left) (.ref a_foresight_row), oX1 a_theCastle (.int v_theCastle_facts) (.int v_theCastle_so) (.int v_theCastle_common) (.int v_theCastle_cases) (.int v_theCastle_firstTrueDay), aI cI a_foresight_row 5 v_foresight_row, aQ cQ a_foresight_left 4 (q4 a_foresight_left_r0 a_foresight_left_r1 a_foresight_left_r2 a_foresight_left_r3), oX4 a_now (.int v_now_date) (.int v_now_trueDay) (.int v_now_wasAsked) (.int v_now_clothState) (.int v_now_cracks) (.ref a_now_known), aI cI a_now_known 7 v_now_known, aI cI a_foresight_left_r0 7 v_foresight_left_r0] sz) o.1 [oX9 a_th q_theText q_theQuestion (.ref a_theCastle) (.ref a_now) q_theActs q_theTold (.ref a_foresight) q_keptMoments q_isKept q_marchWorlds (.long v_theSeed), oX2 a_foresight (.ref a_foresight_left) (.ref a_foresight_row), oX1 a_theCastle (.int v_theCastle_facts) (.int v_theCastle_so) (.int v_theCastle_common) (.int v_theCastle_cases) (.int v_theCastle_firstTrueDay), aI cI a_foresight_row 5 (o.2.1), aQ cQ a_foresight_left 4 (q4 a_foresight_left_r0 a_foresight_left_r1 a_foresight_left_r2 a_foresight_left_r3), oX4 a_now (.int v_now_date) (.int v_now_trueDay) (.int v_now_wasAsked) (.int v_now_clothState) (.int v_now_cracks) (.ref a_now_known), aI cI a_now_known 7 v_now_known, aI cI a_foresight_left_r0 7 (o.2.2)]) 0 0 (va_A [oX9 a_th q_theText q_theQuestion (.ref a_theCastle) (.ref a_now) q_theActs q_theTold (.ref a_foresight) q_keptMoments q_isKept q_marchWorlds (.long v_theSeed), oX2 a_foresight (.ref a_foresight_left) (.ref a_foresight_row), oX1 a_theCastle (.int v_theCastle_facts) (.int v_theCastle_so) (.int v_theCastle_common) (.int v_theCastle_cases) (.int v_theCastle_firstTrueDay), aI cI a_foresight_row 5 v_foresight_row, aQ cQ a_foresight_left 4 (q4 a_foresight_left_r0 a_foresight_left_r1 a_foresight_left_r2 a_foresight_left_r3), oX4 a_now (.int v_now_date) (.int v_now_trueDay) (.int v_now_wasAsked) (.int v_now_clothState) (.int v_now_cracks) (.ref a_now_known), aI cI a_now_known 7 v_now_known, aI cI a_foresight_left_r0 7 v_foresight_left_r0] sz) := by
  refine Met.ofW (cc := cX9_choice) (maxL := 9) (ret := (some .int)) (by decide) rfl ?_
  intro p e s m args below meth c s₁ B hml hv
  obtain ⟨rfl, hsz, hP, hK, hD0, hG⟩ := hv
  have hx := B.exec
  have hb := B.bytes
  have hr := B.returns
  have hts := atoms_spec (ws := wsX9_choice) B.pre
  have hown : s.vm.findClass RX9 = some m.cls := findClass_of_methodNamed B.named
  have hlocks := B.notSynchronized
  subst hsz
  have hD := hD0.self (sz := s.heap.size)
  generalize hAe : va_A [oX9 a_th q_theText q_theQuestion (.ref a_theCastle) (.ref a_now) q_theActs q_theTold (.ref a_foresight) q_keptMoments q_isKept q_marchWorlds (.long v_theSeed), oX2 a_foresight (.ref a_foresight_left) (.ref a_foresight_row), oX1 a_theCastle (.int v_theCastle_facts) (.int v_theCastle_so) (.int v_theCastle_common) (.int v_theCastle_cases) (.int v_theCastle_firstTrueDay), aI cI a_foresight_row 5 v_foresight_row, aQ cQ a_foresight_left 4 (q4 a_foresight_left_r0 a_foresight_left_r1 a_foresight_left_r2 a_foresight_left_r3), oX4 a_now (.int v_now_date) (.int v_now_trueDay) (.int v_now_wasAsked) (.int v_now_clothState) (.int v_now_cracks) (.ref a_now_known), aI cI a_now_known 7 v_now_known, aI cI a_foresight_left_r0 7 v_foresight_left_r0] s.heap.size = A at hD hG ⊢
  have hA : ∀ q : Nat, s.heap.size ≤ q → A q := fun q h => by rw [← hAe]; exact Or.inr h
  have hS : va_S A s.heap s.heap [] := va_S.rf
  have hl := lv_entry ([.ref a_th, .int p_1, .long p_2, .int p_3]) (n := 9) (Nat.le_of_ble_eq_true rfl)
  rw [lg_entry_eq]
  generalize (lg_sl ([.ref a_th, .int p_1, .long p_2, .int p_3]) ++ List.replicate (9 - (lg_sl ([.ref a_th, .int p_1, .long p_2, .int p_3])).length) Slot.unset).toArray = ls at hl ⊢
  have hl : lv_has ls 9 [(0, .ref a_th), (1, .int p_1), (2, .long p_2), (4, .int p_3)] := hl
  have iX9 : ∀ w ∈ wsX90, w ∈ wsX9_choice := fun _ h => List.mem_cons_of_mem _ (List.mem_append_left _ (List.mem_append_left _ (List.mem_append_left _ (List.mem_append_right _ h))))
  have iX1 : ∀ w ∈ wsX10, w ∈ wsX9_choice := fun _ h => List.mem_cons_of_mem _ (List.mem_append_left _ (List.mem_append_left _ (List.mem_append_right _ h)))
  have iX2 : ∀ w ∈ wsX20, w ∈ wsX9_choice := fun _ h => List.mem_cons_of_mem _ (List.mem_append_left _ (List.mem_append_right _ h))
  have iX4 : ∀ w ∈ wsX40, w ∈ wsX9_choice := fun _ h => List.mem_cons_of_mem _ (List.mem_append_right _ h)
  have f56 := hts (.fieldLink RX9 56 "TrueOnceWeek" "foresight" "LTrueOnceWeek$Foresight;") (by decide +kernel)
  have f28 := hts (.fieldLink RX9 28 "TrueOnceWeek" "theCastle" "LTrueOnceWeek$Castle;") (by decide +kernel)
  have f35 := hts (.fieldLink RX9 35 "TrueOnceWeek" "now" "LTrueOnceWeek$Moment;") (by decide +kernel)
  have f148 := va_Nw.use (A := [.ref a_th, .int p_1, .long p_2, .int p_3].toArray) (w := .fieldLinkNest RX9 148 "TrueOnceWeek$Castle" "so" "I" "TrueOnceWeek") rfl (hG.1 (RX9, 148, "TrueOnceWeek$Castle", "so", "I") (by decide +kernel))
  refine kb_gen (fun Q hQ => ?_)
  unfold m_X9_choice at hm
  refine lv_aload_n hx hb dX9_choice_0 rfl (lv_at hl 0 rfl) ?_
  refine va_get (D := (dC, dI)) (ci := 7) (v := .ref a_foresight) (C := RX9) (T := TX9) (N := 11) hx hb hts iX9 hown hK hP 0 rfl rfl 6 (by decide) f56 (fun _ h9 => h9) rfl dX9_choice_1 ?_
  refine lv_aload_n hx hb dX9_choice_4 rfl (lv_at hl 0 rfl) ?_
  refine va_get (D := (dC, dI)) (ci := 7) (v := .ref a_theCastle) (C := RX9) (T := TX9) (N := 11) hx hb hts iX9 hown hK hP 0 rfl rfl 2 (by decide) f28 (fun _ h9 => h9) rfl dX9_choice_5 ?_
  refine lv_iload_n hx hb dX9_choice_8 rfl (lv_at hl 1 rfl) ?_
  refine lv_lload_n hx hb dX9_choice_9 rfl (lv_at hl 2 rfl) ?_
  obtain ⟨r1, w2, ho3, hm⟩ := bd2_s hm
  refine kb_calli (Rv := r1) (va_runV (As := [.ref a_theCastle, .int p_1, .long p_2]) (rest := []) ⟨hx, hb, hml, hown, hts⟩ (c_X2_readRow l dC dI cI cJ cZ cQ t s.heap.size a_foresight a_theCastle a_foresight_row (.ref a_foresight_left) v_theCastle_facts v_theCastle_so v_theCastle_common v_theCastle_cases v_theCastle_firstTrueDay v_foresight_row p_1 p_2 (r1, w2) ho3) (cwV 3 hts gX9_choice_X2_readRow rfl rfl rfl (by decide +kernel) ⟨(Nat.le_of_ble_eq_true rfl), (Nat.le_of_ble_eq_true rfl)⟩) ⟨(kb_pre hK hG hP (kb_D hD rfl) hS hA [1, 2, 3] rfl (by decide)).1, (va_recv hK hP (ci := 2) (q0 := 1) rfl rfl), (kb_pre hK hG hP (kb_D hD rfl) hS hA [1, 2, 3] rfl (by decide)).2⟩ rfl rfl hl.1 rfl (lv_room (Nat.le_of_ble_eq_true rfl)) dX9_choice_10 ⟨Nat.zero_le _, Nat.zero_le _⟩) hP (kb_D hD rfl) hS hA [1, 2, 3] rfl [(false, 0), (true, 0), (true, 1), (true, 2), (false, 4), (false, 5), (false, 6), (false, 7)] (w2 := [oX9 a_th q_theText q_theQuestion (.ref a_theCastle) (.ref a_now) q_theActs q_theTold (.ref a_foresight) q_keptMoments q_isKept q_marchWorlds (.long v_theSeed), oX2 a_foresight (.ref a_foresight_left) (.ref a_foresight_row), oX1 a_theCastle (.int v_theCastle_facts) (.int v_theCastle_so) (.int v_theCastle_common) (.int v_theCastle_cases) (.int v_theCastle_firstTrueDay), aI cI a_foresight_row 5 w2, aQ cQ a_foresight_left 4 (q4 a_foresight_left_r0 a_foresight_left_r1 a_foresight_left_r2 a_foresight_left_r3), oX4 a_now (.int v_now_date) (.int v_now_trueDay) (.int v_now_wasAsked) (.int v_now_clothState) (.int v_now_cracks) (.ref a_now_known), aI cI a_now_known 7 v_now_known, aI cI a_foresight_left_r0 7 v_foresight_left_r0]) rfl (by decide) (fun H locs hP hS => ?_)
  refine lv_if_eq (tgt := 27) hx hb dX9_choice_13 (by decide) (fun c4 => ?_) (fun c4 => ?_)
  · replace hm := ite_t c4 hm
    refine lv_bipush (v := (-2 : Int32)) hx hb dX9_choice_27 (by decide) ?_
    obtain rfl := Option.some.inj hm
    subst hQ
    exact W.iret hx hb hr (fun t ht hW => ⟨⟨_, (), rfl, rfl, kb_h hP ht⟩, hS.F ht⟩) hS.2.2 dX9_choice_29
  · replace hm := ite_f c4 hm
    refine lv_iload hx hb dX9_choice_16 (lv_at hl 3 rfl) ?_
    refine lv_if_lt (tgt := 27) hx hb dX9_choice_18 (by decide) (fun c5 => ?_) (fun c5 => ?_)
    · replace hm := ite_t c5 hm
      refine lv_bipush (v := (-2 : Int32)) hx hb dX9_choice_27 (by decide) ?_
      obtain rfl := Option.some.inj hm
      subst hQ
      exact W.iret hx hb hr (fun t ht hW => ⟨⟨_, (), rfl, rfl, kb_h hP ht⟩, hS.F ht⟩) hS.2.2 dX9_choice_29
    · replace hm := ite_f c5 hm
      refine lv_iload hx hb dX9_choice_21 (lv_at hl 3 rfl) ?_
      refine lv_iconst (v := (1 : Int32)) hx hb dX9_choice_23 (by decide) ?_
      refine lv_icmp_le (tgt := 30) hx hb dX9_choice_24 (by decide) (fun c6 => ?_) (fun c6 => ?_)
      · replace hm := ite_t c6 hm
        refine lv_iconst (v := (0 : Int32)) hx hb dX9_choice_30 (by decide) ?_
        refine lv_istore (lv' := [(5, .int (0 : Int32)), (0, .ref a_th), (1, .int p_1), (2, .long p_2), (4, .int p_3)]) hx hb dX9_choice_31 hl (by decide) rfl (fun ls hl => ?_)
        refine lv_iconst (v := (-1 : Int32)) hx hb dX9_choice_33 (by decide) ?_
        refine lv_istore (lv' := [(6, .int (-1 : Int32)), (5, .int (0 : Int32)), (0, .ref a_th), (1, .int p_1), (2, .long p_2), (4, .int p_3)]) hx hb dX9_choice_34 hl (by decide) rfl (fun ls hl => ?_)
        refine lv_iconst (v := (0 : Int32)) hx hb dX9_choice_36 (by decide) ?_
        refine lv_istore (lv' := [(7, .int (0 : Int32)), (6, .int (-1 : Int32)), (5, .int (0 : Int32)), (0, .ref a_th), (1, .int p_1), (2, .long p_2), (4, .int p_3)]) hx hb dX9_choice_37 hl (by decide) rfl (fun ls hl => ?_)
        have lp39 : ∀ (n39 : Nat) (x7 : Int32) (x8 : Int32) (x9 : Int32) (w10 : (Nat → Int32)) (k39 : Int32 → Int32 → (Nat → Int32) → Option (Int32 × (Nat → Int32) × (Nat → Int32))) (H : Heap) (locs : List Loc) (ls : Array Slot), L_X9_choice_39 v_theCastle_so v_now_date v_now_known p_1 w2 n39 x7 x8 x9 w10 k39 = some o → (∀ (x11 : Int32) (x12 : Int32) (w13 : (Nat → Int32)) (H : Heap) (locs : List Loc) (ls : Array Slot), k39 x11 x12 w13 = some o → va_P (dC, dI) vwCl [oX9 a_th q_theText q_theQuestion (.ref a_theCastle) (.ref a_now) q_theActs q_theTold (.ref a_foresight) q_keptMoments q_isKept q_marchWorlds (.long v_theSeed), oX2 a_foresight (.ref a_foresight_left) (.ref a_foresight_row), oX1 a_theCastle (.int v_theCastle_facts) (.int v_theCastle_so) (.int v_theCastle_common) (.int v_theCastle_cases) (.int v_theCastle_firstTrueDay), aI cI a_foresight_row 5 w2, aQ cQ a_foresight_left 4 (q4 a_foresight_left_r0 a_foresight_left_r1 a_foresight_left_r2 a_foresight_left_r3), oX4 a_now (.int v_now_date) (.int v_now_trueDay) (.int v_now_wasAsked) (.int v_now_clothState) (.int v_now_cracks) (.ref a_now_known), aI cI a_now_known 7 v_now_known, aI cI a_foresight_left_r0 7 w13] H → va_S A s.heap H locs → lv_has ls 9 [(4, .int p_3), (5, .int x11), (6, .int x12)] → W p l e (headSpec wsX9_choice { frames := 5, cells := 0, slots := 0, locals := 128 }).room s m [.ref a_th, .int p_1, .long p_2, .int p_3].toArray below meth c H locs 0 0 Q (F0 m 90 ls [])) → va_P (dC, dI) vwCl [oX9 a_th q_theText q_theQuestion (.ref a_theCastle) (.ref a_now) q_theActs q_theTold (.ref a_foresight) q_keptMoments q_isKept q_marchWorlds (.long v_theSeed), oX2 a_foresight (.ref a_foresight_left) (.ref a_foresight_row), oX1 a_theCastle (.int v_theCastle_facts) (.int v_theCastle_so) (.int v_theCastle_common) (.int v_theCastle_cases) (.int v_theCastle_firstTrueDay), aI cI a_foresight_row 5 w2, aQ cQ a_foresight_left 4 (q4 a_foresight_left_r0 a_foresight_left_r1 a_foresight_left_r2 a_foresight_left_r3), oX4 a_now (.int v_now_date) (.int v_now_trueDay) (.int v_now_wasAsked) (.int v_now_clothState) (.int v_now_cracks) (.ref a_now_known), aI cI a_now_known 7 v_now_known, aI cI a_foresight_left_r0 7 w10] H → va_S A s.heap H locs → lv_has ls 9 [(0, .ref a_th), (1, .int p_1), (4, .int p_3), (5, .int x7), (6, .int x8), (7, .int x9)] → W p l e (headSpec wsX9_choice { frames := 5, cells := 0, slots := 0, locals := 128 }).room s m [.ref a_th, .int p_1, .long p_2, .int p_3].toArray below meth c H locs 0 0 Q (F0 m 39 ls []) := by
          intro n39
          induction n39 with
          | zero =>
            intro x7 x8 x9 w10 k39 H locs ls hm
            cases (show (none : Option (Int32 × (Nat → Int32) × (Nat → Int32))) = some o from hm)
          | succ n39 ih39 =>
            intro x7 x8 x9 w10 k39 H locs ls hm hk39 hP hS hl
            rw [L_X9_choice_39.eq_2] at hm
            refine lv_iload hx hb dX9_choice_39 (lv_at hl 5 rfl) ?_
            refine lv_bipush (v := (7 : Int32)) hx hb dX9_choice_41 (by decide) ?_
            refine lv_icmp_ge (tgt := 90) hx hb dX9_choice_43 (by decide) (fun c14 => ?_) (fun c14 => ?_)
            · replace hm := ite_t c14 hm
              exact hk39 x7 x8 w10 _ _ _ hm hP hS (lv_sub hl [2, 3, 4] rfl)
            · replace hm := ite_f c14 hm
              refine lv_aload_n hx hb dX9_choice_46 rfl (lv_at hl 0 rfl) ?_
              refine va_get (D := (dC, dI)) (ci := 7) (v := .ref a_foresight) (C := RX9) (T := TX9) (N := 11) hx hb hts iX9 hown hK hP 0 rfl rfl 6 (by decide) f56 (fun _ h9 => h9) rfl dX9_choice_47 ?_
              refine lv_aload_n hx hb dX9_choice_50 rfl (lv_at hl 0 rfl) ?_
              refine va_get (D := (dC, dI)) (ci := 7) (v := .ref a_now) (C := RX9) (T := TX9) (N := 11) hx hb hts iX9 hown hK hP 0 rfl rfl 3 (by decide) f35 (fun _ h9 => h9) rfl dX9_choice_51 ?_
              refine lv_iload_n hx hb dX9_choice_54 rfl (lv_at hl 1 rfl) ?_
              refine lv_iload hx hb dX9_choice_55 (lv_at hl 5 rfl) ?_
              refine lv_aload_n hx hb dX9_choice_57 rfl (lv_at hl 0 rfl) ?_
              refine va_get (D := (dC, dI)) (ci := 7) (v := .ref a_theCastle) (C := RX9) (T := TX9) (N := 11) hx hb hts iX9 hown hK hP 0 rfl rfl 2 (by decide) f28 (fun _ h9 => h9) rfl dX9_choice_58 ?_
              refine va_getN (D := (dC, dI)) (ci := 1) (v := .int v_theCastle_so) (C := RX1) (T := TX1) (N := 5) hx hb hts iX1 hown hK hP 2 rfl rfl 1 (by decide) f148 (fun _ h9 => h9) rfl dX9_choice_61 ?_
              obtain ⟨r15, w16, ho17, hm⟩ := bd2_s hm
              refine kb_calli (Rv := r15) (va_runV (As := [.ref a_now, .int p_1, .int x9, .int v_theCastle_so]) (rest := []) ⟨hx, hb, hml, hown, hts⟩ (c_X2_leftBehindRow l dC dI cI cJ cZ cQ t H.size a_foresight a_foresight_left a_now a_now_known a_foresight_left_r0 a_foresight_row a_foresight_left_r1 a_foresight_left_r2 a_foresight_left_r3 v_now_date v_now_trueDay v_now_wasAsked v_now_clothState v_now_cracks v_now_known w10 w2 p_1 x9 v_theCastle_so (r15, w16) ho17) (cwV 4 hts gX9_choice_X2_leftBehindRow rfl rfl rfl (by decide +kernel) ⟨(Nat.le_of_ble_eq_true rfl), (Nat.le_of_ble_eq_true rfl)⟩) ⟨(kb_pre hK hG hP (kb_D hD rfl) hS hA [1, 4, 5, 6, 7, 3] rfl (by decide)).1, (va_recv hK hP (ci := 2) (q0 := 1) rfl rfl), (kb_pre hK hG hP (kb_D hD rfl) hS hA [1, 4, 5, 6, 7, 3] rfl (by decide)).2⟩ rfl rfl hl.1 rfl (lv_room (Nat.le_of_ble_eq_true rfl)) dX9_choice_64 ⟨Nat.zero_le _, Nat.zero_le _⟩) hP (kb_D hD rfl) hS hA [1, 4, 5, 6, 7, 3] rfl [(false, 0), (true, 0), (false, 2), (true, 5), (true, 1), (true, 2), (true, 3), (true, 4)] (w2 := [oX9 a_th q_theText q_theQuestion (.ref a_theCastle) (.ref a_now) q_theActs q_theTold (.ref a_foresight) q_keptMoments q_isKept q_marchWorlds (.long v_theSeed), oX2 a_foresight (.ref a_foresight_left) (.ref a_foresight_row), oX1 a_theCastle (.int v_theCastle_facts) (.int v_theCastle_so) (.int v_theCastle_common) (.int v_theCastle_cases) (.int v_theCastle_firstTrueDay), aI cI a_foresight_row 5 w2, aQ cQ a_foresight_left 4 (q4 a_foresight_left_r0 a_foresight_left_r1 a_foresight_left_r2 a_foresight_left_r3), oX4 a_now (.int v_now_date) (.int v_now_trueDay) (.int v_now_wasAsked) (.int v_now_clothState) (.int v_now_cracks) (.ref a_now_known), aI cI a_now_known 7 v_now_known, aI cI a_foresight_left_r0 7 w16]) rfl (by decide) (fun H locs hP hS => ?_)
              refine lv_istore (lv' := [(8, .int r15), (0, .ref a_th), (1, .int p_1), (4, .int p_3), (5, .int x7), (6, .int x8), (7, .int x9)]) hx hb dX9_choice_67 hl (by decide) rfl (fun ls hl => ?_)
              refine lv_iload hx hb dX9_choice_69 (lv_at hl 0 rfl) ?_
              refine lv_iload hx hb dX9_choice_71 (lv_at hl 5 rfl) ?_
              obtain ⟨k84, ek84, hm⟩ := nm_s hm
              have J84 : ∀ (x18 : Int32) (x19 : Int32) (H : Heap) (locs : List Loc) (ls : Array Slot), k84 x18 x19 = some o → va_P (dC, dI) vwCl [oX9 a_th q_theText q_theQuestion (.ref a_theCastle) (.ref a_now) q_theActs q_theTold (.ref a_foresight) q_keptMoments q_isKept q_marchWorlds (.long v_theSeed), oX2 a_foresight (.ref a_foresight_left) (.ref a_foresight_row), oX1 a_theCastle (.int v_theCastle_facts) (.int v_theCastle_so) (.int v_theCastle_common) (.int v_theCastle_cases) (.int v_theCastle_firstTrueDay), aI cI a_foresight_row 5 w2, aQ cQ a_foresight_left 4 (q4 a_foresight_left_r0 a_foresight_left_r1 a_foresight_left_r2 a_foresight_left_r3), oX4 a_now (.int v_now_date) (.int v_now_trueDay) (.int v_now_wasAsked) (.int v_now_clothState) (.int v_now_cracks) (.ref a_now_known), aI cI a_now_known 7 v_now_known, aI cI a_foresight_left_r0 7 w16] H → va_S A s.heap H locs → lv_has ls 9 [(0, .ref a_th), (1, .int p_1), (4, .int p_3), (5, .int x18), (6, .int x19), (7, .int x9)] → W p l e (headSpec wsX9_choice { frames := 5, cells := 0, slots := 0, locals := 128 }).room s m [.ref a_th, .int p_1, .long p_2, .int p_3].toArray below meth c H locs 0 0 Q (F0 m 84 ls []) := by
                intro x18 x19 H locs ls hm hP hS hl
                rw [ek84] at hm
                obtain ⟨x20, ex20⟩ : ∃ y : Int32, y = x9 + (1 : Int32) := ⟨_, rfl⟩
                replace hm := nm_t ex20 hm
                refine lv_iinc (v := x20) (lv' := [(7, .int x20), (0, .ref a_th), (1, .int p_1), (4, .int p_3), (5, .int x18), (6, .int x19)]) hx hb dX9_choice_84 hl (k := 5) rfl (by rw [ex20]; rfl) (by decide) rfl (fun ls hl => ?_)
                refine lv_goto (tgt := 39) hx hb dX9_choice_87 (by decide) ?_
                exact ih39 x18 x19 x20 w16 k39 _ _ _ hm hk39 hP hS (lv_sub hl [1, 2, 3, 4, 5, 0] rfl)
              refine lv_icmp_le (tgt := 84) hx hb dX9_choice_73 (by decide) (fun c21 => ?_) (fun c21 => ?_)
              · replace hm := ite_t c21 hm
                exact J84 x7 x8 _ _ _ hm hP hS (lv_sub hl [1, 2, 3, 4, 5, 6] rfl)
              · replace hm := ite_f c21 hm
                refine lv_iload hx hb dX9_choice_76 (lv_at hl 0 rfl) ?_
                refine lv_istore (lv' := [(6, .int r15), (8, .int r15), (0, .ref a_th), (1, .int p_1), (4, .int p_3), (5, .int x7), (7, .int x9)]) hx hb dX9_choice_78 hl (by decide) rfl (fun ls hl => ?_)
                refine lv_iload hx hb dX9_choice_80 (lv_at hl 6 rfl) ?_
                refine lv_istore (lv' := [(5, .int x9), (6, .int r15), (8, .int r15), (0, .ref a_th), (1, .int p_1), (4, .int p_3), (7, .int x9)]) hx hb dX9_choice_82 hl (by decide) rfl (fun ls hl => ?_)
                exact J84 x9 r15 _ _ _ hm hP hS (lv_sub hl [3, 4, 5, 0, 1, 6] rfl)
        refine lp39 1024 (0 : Int32) (-1 : Int32) (0 : Int32) v_foresight_left_r0 _ _ _ _ hm (fun x11 x12 w13 H locs ls hm hP hS hl => ?_) hP hS (lv_sub hl [3, 4, 6, 2, 1, 0] rfl)
        refine lv_iload hx hb dX9_choice_90 (lv_at hl 0 rfl) ?_
        refine lv_if_ne (tgt := 100) hx hb dX9_choice_92 (by decide) (fun c22 => ?_) (fun c22 => ?_)
        · replace hm := ite_f c22 hm
          refine lv_iload hx hb dX9_choice_100 (lv_at hl 2 rfl) ?_
          obtain rfl := Option.some.inj hm
          subst hQ
          exact W.iret hx hb hr (fun t ht hW => ⟨⟨_, (), rfl, rfl, kb_h hP ht⟩, hS.F ht⟩) hS.2.2 dX9_choice_102
        · replace hm := ite_t c22 hm
          refine lv_iload hx hb dX9_choice_95 (lv_at hl 1 rfl) ?_
          refine lv_goto (tgt := 102) hx hb dX9_choice_97 (by decide) ?_
          obtain rfl := Option.some.inj hm
          subst hQ
          exact W.iret hx hb hr (fun t ht hW => ⟨⟨_, (), rfl, rfl, kb_h hP ht⟩, hS.F ht⟩) hS.2.2 dX9_choice_102
      · replace hm := ite_f c6 hm
        refine lv_bipush (v := (-2 : Int32)) hx hb dX9_choice_27 (by decide) ?_
        obtain rfl := Option.some.inj hm
        subst hQ
        exact W.iret hx hb hr (fun t ht hW => ⟨⟨_, (), rfl, rfl, kb_h hP ht⟩, hS.F ht⟩) hS.2.2 dX9_choice_29
set_option maxHeartbeats 4000000 in
set_option maxRecDepth 100000 in
theorem c_X9_knownByBoth (l : Launch) (dC : Nat → ClassId) (dI : Nat → Nat → Nat) (cI cJ cZ cQ : ClassId) (t sz : Nat) (a_th : Nat) (a_now : Nat) (a_theCastle : Nat) (a_theQuestion : Nat) (a_theQuestion_letters : Nat) (a_theQuestion_letters_bytes : Nat) (a_theQuestion_stack : Nat) (a_now_known : Nat) (n_theQuestion_letters_bytes : Nat) (q_theText : Value) (q_theActs : Value) (q_theTold : Value) (q_foresight : Value) (q_keptMoments : Value) (q_isKept : Value) (q_marchWorlds : Value) (v_theSeed : Int64) (v_now_date : Int32) (v_now_trueDay : Int32) (v_now_wasAsked : Int32) (v_now_clothState : Int32) (v_now_cracks : Int32) (v_theCastle_facts : Int32) (v_theCastle_so : Int32) (v_theCastle_common : Int32) (v_theCastle_cases : Int32) (v_theCastle_firstTrueDay : Int32) (v_theQuestion_letters_length : Int32) (v_theQuestion_letters_bytes : (Nat → Int32)) (v_theQuestion_stack : (Nat → Int32)) (v_now_known : (Nat → Int32)) (o : Int32 × (Nat → Int32)) (hm : m_X9_knownByBoth n_theQuestion_letters_bytes v_now_date v_now_trueDay v_theCastle_so v_theQuestion_letters_length v_theQuestion_letters_bytes v_theQuestion_stack v_now_known = some o) : Met l yX9_knownByBoth wsX9_knownByBoth { frames := 5, cells := 0, slots := 0, locals := 119 } (va_Pc [.ref a_th] (cP (dC, dI) (kT cI cJ cZ cQ) t sz [oX9 a_th q_theText (.ref a_theQuestion) (.ref a_theCastle) (.ref a_now) q_theActs q_theTold q_foresight q_keptMoments q_isKept q_marchWorlds (.long v_theSeed), oX4 a_now (.int v_now_date) (.int v_now_trueDay) (.int v_now_wasAsked) (.int v_now_clothState) (.int v_now_cracks) (.ref a_now_known), oX1 a_theCastle (.int v_theCastle_facts) (.int v_theCastle_so) (.int v_theCastle_common) (.int v_theCastle_cases) (.int v_theCastle_firstTrueDay), oX5 a_theQuestion (.ref a_theQuestion_letters) (.ref a_theQuestion_stack), oX3 a_theQuestion_letters (.ref a_theQuestion_letters_bytes) (.int v_theQuestion_letters_length), aI cI a_theQuestion_letters_bytes n_theQuestion_letters_bytes v_theQuestion_letters_bytes, aI cI a_theQuestion_stack 16 v_theQuestion_stack, aI cI a_now_known 7 v_now_known])) (cQi (dC, dI) (va_A [oX9 a_th q_theText (.ref a_theQuestion) (.ref a_theCastle) (.ref a_now) q_theActs q_theTold q_foresight q_keptMoments q_isKept q_marchWorlds (.long v_theSeed), oX4 a_now (.int v_now_date) (.int v_now_trueDay) (.int v_now_wasAsked) (.int v_now_clothState) (.int v_now_cracks) (.ref a_now_known), oX1 a_theCastle (.int v_theCastle_facts) (.int v_theCastle_so) (.int v_theCastle_common) (.int v_theCastle_cases) (.int v_theCastle_firstTrueDay), oX5 a_theQuestion (.ref a_theQuestion_letters) (.ref a_theQuestion_stack), oX3 a_theQuestion_letters (.ref a_theQuestion_letters_bytes) (.int v_theQuestion_letters_length), aI cI a_theQuestion_letters_bytes n_theQuestion_letters_bytes v_theQuestion_letters_bytes, aI cI a_theQuestion_stack 16 v_theQuestion_stack, aI cI a_now_known 7 v_now_known] sz) o.1 [oX9 a_th q_theText (.ref a_theQuestion) (.ref a_theCastle) (.ref a_now) q_theActs q_theTold q_foresight q_keptMoments q_isKept q_marchWorlds (.long v_theSeed), oX4 a_now (.int v_now_date) (.int v_now_trueDay) (.int v_now_wasAsked) (.int v_now_clothState) (.int v_now_cracks) (.ref a_now_known), oX1 a_theCastle (.int v_theCastle_facts) (.int v_theCastle_so) (.int v_theCastle_common) (.int v_theCastle_cases) (.int v_theCastle_firstTrueDay), oX5 a_theQuestion (.ref a_theQuestion_letters) (.ref a_theQuestion_stack), oX3 a_theQuestion_letters (.ref a_theQuestion_letters_bytes) (.int v_theQuestion_letters_length), aI cI a_theQuestion_letters_bytes n_theQuestion_letters_bytes v_theQuestion_letters_bytes, aI cI a_theQuestion_stack 16 (o.2), aI cI a_now_known 7 v_now_known]) 0 0 (va_A [oX9 a_th q_theText (.ref a_theQuestion) (.ref a_theCastle) (.ref a_now) q_theActs q_theTold q_foresight q_keptMoments q_isKept q_marchWorlds (.long v_theSeed), oX4 a_now (.int v_now_date) (.int v_now_trueDay) (.int v_now_wasAsked) (.int v_now_clothState) (.int v_now_cracks) (.ref a_now_known), oX1 a_theCastle (.int v_theCastle_facts) (.int v_theCastle_so) (.int v_theCastle_common) (.int v_theCastle_cases) (.int v_theCastle_firstTrueDay), oX5 a_theQuestion (.ref a_theQuestion_letters) (.ref a_theQuestion_stack), oX3 a_theQuestion_letters (.ref a_theQuestion_letters_bytes) (.int v_theQuestion_letters_length), aI cI a_theQuestion_letters_bytes n_theQuestion_letters_bytes v_theQuestion_letters_bytes, aI cI a_theQuestion_stack 16 v_theQuestion_stack, aI cI a_now_known 7 v_now_known] sz) := by
  refine Met.ofW (cc := cX9_knownByBoth) (maxL := 6) (ret := (some .int)) (by decide) rfl ?_
  intro p e s m args below meth c s₁ B hml hv
  obtain ⟨rfl, hsz, hP, hK, hD0, hG⟩ := hv
  have hx := B.exec
  have hb := B.bytes
  have hr := B.returns
  have hts := atoms_spec (ws := wsX9_knownByBoth) B.pre
  have hown : s.vm.findClass RX9 = some m.cls := findClass_of_methodNamed B.named
  have hlocks := B.notSynchronized
  subst hsz
  have hD := hD0.self (sz := s.heap.size)
  generalize hAe : va_A [oX9 a_th q_theText (.ref a_theQuestion) (.ref a_theCastle) (.ref a_now) q_theActs q_theTold q_foresight q_keptMoments q_isKept q_marchWorlds (.long v_theSeed), oX4 a_now (.int v_now_date) (.int v_now_trueDay) (.int v_now_wasAsked) (.int v_now_clothState) (.int v_now_cracks) (.ref a_now_known), oX1 a_theCastle (.int v_theCastle_facts) (.int v_theCastle_so) (.int v_theCastle_common) (.int v_theCastle_cases) (.int v_theCastle_firstTrueDay), oX5 a_theQuestion (.ref a_theQuestion_letters) (.ref a_theQuestion_stack), oX3 a_theQuestion_letters (.ref a_theQuestion_letters_bytes) (.int v_theQuestion_letters_length), aI cI a_theQuestion_letters_bytes n_theQuestion_letters_bytes v_theQuestion_letters_bytes, aI cI a_theQuestion_stack 16 v_theQuestion_stack, aI cI a_now_known 7 v_now_known] s.heap.size = A at hD hG ⊢
  have hA : ∀ q : Nat, s.heap.size ≤ q → A q := fun q h => by rw [← hAe]; exact Or.inr h
  have hS : va_S A s.heap s.heap [] := va_S.rf
  have hl := lv_entry ([.ref a_th]) (n := 6) (Nat.le_of_ble_eq_true rfl)
  rw [lg_entry_eq]
  generalize (lg_sl ([.ref a_th]) ++ List.replicate (6 - (lg_sl ([.ref a_th])).length) Slot.unset).toArray = ls at hl ⊢
  have hl : lv_has ls 6 [(0, .ref a_th)] := hl
  have iX9 : ∀ w ∈ wsX90, w ∈ wsX9_knownByBoth := fun _ h => List.mem_cons_of_mem _ (List.mem_append_left _ (List.mem_append_left _ (List.mem_append_left _ (List.mem_append_left _ (List.mem_append_right _ h)))))
  have iX4 : ∀ w ∈ wsX40, w ∈ wsX9_knownByBoth := fun _ h => List.mem_cons_of_mem _ (List.mem_append_left _ (List.mem_append_left _ (List.mem_append_left _ (List.mem_append_right _ h))))
  have iX1 : ∀ w ∈ wsX10, w ∈ wsX9_knownByBoth := fun _ h => List.mem_cons_of_mem _ (List.mem_append_left _ (List.mem_append_left _ (List.mem_append_right _ h)))
  have iX5 : ∀ w ∈ wsX50, w ∈ wsX9_knownByBoth := fun _ h => List.mem_cons_of_mem _ (List.mem_append_left _ (List.mem_append_right _ h))
  have iX3 : ∀ w ∈ wsX30, w ∈ wsX9_knownByBoth := fun _ h => List.mem_cons_of_mem _ (List.mem_append_right _ h)
  have f35 := hts (.fieldLink RX9 35 "TrueOnceWeek" "now" "LTrueOnceWeek$Moment;") (by decide +kernel)
  have f21 := hts (.fieldLink RX9 21 "TrueOnceWeek" "theQuestion" "LTrueOnceWeek$Question;") (by decide +kernel)
  have f141 := va_Nw.use (A := [.ref a_th].toArray) (w := .fieldLinkNest RX9 141 "TrueOnceWeek$Moment" "trueDay" "I" "TrueOnceWeek") rfl (hG.1 (RX9, 141, "TrueOnceWeek$Moment", "trueDay", "I") (by decide +kernel))
  have f28 := hts (.fieldLink RX9 28 "TrueOnceWeek" "theCastle" "LTrueOnceWeek$Castle;") (by decide +kernel)
  have f148 := va_Nw.use (A := [.ref a_th].toArray) (w := .fieldLinkNest RX9 148 "TrueOnceWeek$Castle" "so" "I" "TrueOnceWeek") rfl (hG.1 (RX9, 148, "TrueOnceWeek$Castle", "so", "I") (by decide +kernel))
  have f113 := va_Nw.use (A := [.ref a_th].toArray) (w := .fieldLinkNest RX9 113 "TrueOnceWeek$Moment" "known" "[I" "TrueOnceWeek") rfl (hG.1 (RX9, 113, "TrueOnceWeek$Moment", "known", "[I") (by decide +kernel))
  refine kb_gen (fun Q hQ => ?_)
  unfold m_X9_knownByBoth at hm
  refine lv_aload_n hx hb dX9_knownByBoth_0 rfl (lv_at hl 0 rfl) ?_
  refine va_get (D := (dC, dI)) (ci := 7) (v := .ref a_now) (C := RX9) (T := TX9) (N := 11) hx hb hts iX9 hown hK hP 0 rfl rfl 3 (by decide) f35 (fun _ h9 => h9) rfl dX9_knownByBoth_1 ?_
  obtain ⟨r1, ho2, hm⟩ := bd1_s hm
  refine kb_calli (Rv := r1) (va_runV (As := []) (rest := []) ⟨hx, hb, hml, hown, hts⟩ (c_X4_weekday l dC dI cI cJ cZ cQ t s.heap.size a_now (.ref a_now_known) v_now_date v_now_trueDay v_now_wasAsked v_now_clothState v_now_cracks (r1) ho2) (cwV 0 hts gX9_knownByBoth_X4_weekday rfl rfl rfl (by decide +kernel) ⟨(Nat.le_of_ble_eq_true rfl), (Nat.le_of_ble_eq_true rfl)⟩) ⟨(kb_pre hK hG hP (kb_D hD rfl) hS hA [1] rfl (by decide)).1, (va_recv hK hP (ci := 4) (q0 := 1) rfl rfl), (kb_pre hK hG hP (kb_D hD rfl) hS hA [1] rfl (by decide)).2⟩ rfl rfl hl.1 rfl (lv_room (Nat.le_of_ble_eq_true rfl)) dX9_knownByBoth_4 ⟨Nat.zero_le _, Nat.zero_le _⟩) hP (kb_D hD rfl) hS hA [1] rfl [(false, 0), (true, 0), (false, 2), (false, 3), (false, 4), (false, 5), (false, 6), (false, 7)] (w2 := [oX9 a_th q_theText (.ref a_theQuestion) (.ref a_theCastle) (.ref a_now) q_theActs q_theTold q_foresight q_keptMoments q_isKept q_marchWorlds (.long v_theSeed), oX4 a_now (.int v_now_date) (.int v_now_trueDay) (.int v_now_wasAsked) (.int v_now_clothState) (.int v_now_cracks) (.ref a_now_known), oX1 a_theCastle (.int v_theCastle_facts) (.int v_theCastle_so) (.int v_theCastle_common) (.int v_theCastle_cases) (.int v_theCastle_firstTrueDay), oX5 a_theQuestion (.ref a_theQuestion_letters) (.ref a_theQuestion_stack), oX3 a_theQuestion_letters (.ref a_theQuestion_letters_bytes) (.int v_theQuestion_letters_length), aI cI a_theQuestion_letters_bytes n_theQuestion_letters_bytes v_theQuestion_letters_bytes, aI cI a_theQuestion_stack 16 v_theQuestion_stack, aI cI a_now_known 7 v_now_known]) rfl (by decide) (fun H locs hP hS => ?_)
  refine lv_istore_n (lv' := [(1, .int r1), (0, .ref a_th)]) hx hb dX9_knownByBoth_7 rfl hl (by decide) rfl (fun ls hl => ?_)
  refine lv_aload_n hx hb dX9_knownByBoth_8 rfl (lv_at hl 1 rfl) ?_
  refine va_get (D := (dC, dI)) (ci := 7) (v := .ref a_theQuestion) (C := RX9) (T := TX9) (N := 11) hx hb hts iX9 hown hK hP 0 rfl rfl 1 (by decide) f21 (fun _ h9 => h9) rfl dX9_knownByBoth_9 ?_
  refine lv_iload_n hx hb dX9_knownByBoth_12 rfl (lv_at hl 0 rfl) ?_
  refine lv_aload_n hx hb dX9_knownByBoth_13 rfl (lv_at hl 1 rfl) ?_
  refine va_get (D := (dC, dI)) (ci := 7) (v := .ref a_now) (C := RX9) (T := TX9) (N := 11) hx hb hts iX9 hown hK hP 0 rfl rfl 3 (by decide) f35 (fun _ h9 => h9) rfl dX9_knownByBoth_14 ?_
  refine va_getN (D := (dC, dI)) (ci := 4) (v := .int v_now_trueDay) (C := RX4) (T := TX4) (N := 6) hx hb hts iX4 hown hK hP 1 rfl rfl 1 (by decide) f141 (fun _ h9 => h9) rfl dX9_knownByBoth_17 ?_
  refine lv_aload_n hx hb dX9_knownByBoth_20 rfl (lv_at hl 1 rfl) ?_
  refine va_get (D := (dC, dI)) (ci := 7) (v := .ref a_theCastle) (C := RX9) (T := TX9) (N := 11) hx hb hts iX9 hown hK hP 0 rfl rfl 2 (by decide) f28 (fun _ h9 => h9) rfl dX9_knownByBoth_21 ?_
  refine va_getN (D := (dC, dI)) (ci := 1) (v := .int v_theCastle_so) (C := RX1) (T := TX1) (N := 5) hx hb hts iX1 hown hK hP 2 rfl rfl 1 (by decide) f148 (fun _ h9 => h9) rfl dX9_knownByBoth_24 ?_
  refine lv_iconst (v := (0 : Int32)) hx hb dX9_knownByBoth_27 (by decide) ?_
  obtain ⟨r3, w4, ho5, hm⟩ := bd2_s hm
  refine kb_calli (Rv := r3) (va_runV (As := [.int r1, .int v_now_trueDay, .int v_theCastle_so, .int (0 : Int32)]) (rest := []) ⟨hx, hb, hml, hown, hts⟩ (c_X5_answerIn l dC dI cI cJ cZ cQ t H.size a_theQuestion a_theQuestion_letters a_theQuestion_letters_bytes a_theQuestion_stack n_theQuestion_letters_bytes v_theQuestion_letters_length v_theQuestion_letters_bytes v_theQuestion_stack r1 v_now_trueDay v_theCastle_so (0 : Int32) (r3, w4) ho5) (cwV 4 hts gX9_knownByBoth_X5_answerIn rfl rfl rfl (by decide +kernel) ⟨(Nat.le_of_ble_eq_true rfl), (Nat.le_of_ble_eq_true rfl)⟩) ⟨(kb_pre hK hG hP (kb_D hD rfl) hS hA [3, 4, 5, 6] rfl (by decide)).1, (va_recv hK hP (ci := 5) (q0 := 3) rfl rfl), (kb_pre hK hG hP (kb_D hD rfl) hS hA [3, 4, 5, 6] rfl (by decide)).2⟩ rfl rfl hl.1 rfl (lv_room (Nat.le_of_ble_eq_true rfl)) dX9_knownByBoth_28 ⟨Nat.zero_le _, Nat.zero_le _⟩) hP (kb_D hD rfl) hS hA [3, 4, 5, 6] rfl [(false, 0), (false, 1), (false, 2), (true, 0), (true, 1), (true, 2), (true, 3), (false, 7)] (w2 := [oX9 a_th q_theText (.ref a_theQuestion) (.ref a_theCastle) (.ref a_now) q_theActs q_theTold q_foresight q_keptMoments q_isKept q_marchWorlds (.long v_theSeed), oX4 a_now (.int v_now_date) (.int v_now_trueDay) (.int v_now_wasAsked) (.int v_now_clothState) (.int v_now_cracks) (.ref a_now_known), oX1 a_theCastle (.int v_theCastle_facts) (.int v_theCastle_so) (.int v_theCastle_common) (.int v_theCastle_cases) (.int v_theCastle_firstTrueDay), oX5 a_theQuestion (.ref a_theQuestion_letters) (.ref a_theQuestion_stack), oX3 a_theQuestion_letters (.ref a_theQuestion_letters_bytes) (.int v_theQuestion_letters_length), aI cI a_theQuestion_letters_bytes n_theQuestion_letters_bytes v_theQuestion_letters_bytes, aI cI a_theQuestion_stack 16 w4, aI cI a_now_known 7 v_now_known]) rfl (by decide) (fun H locs hP hS => ?_)
  refine lv_istore_n (lv' := [(2, .int r3), (1, .int r1), (0, .ref a_th)]) hx hb dX9_knownByBoth_31 rfl hl (by decide) rfl (fun ls hl => ?_)
  refine lv_aload_n hx hb dX9_knownByBoth_32 rfl (lv_at hl 2 rfl) ?_
  refine va_get (D := (dC, dI)) (ci := 7) (v := .ref a_theQuestion) (C := RX9) (T := TX9) (N := 11) hx hb hts iX9 hown hK hP 0 rfl rfl 1 (by decide) f21 (fun _ h9 => h9) rfl dX9_knownByBoth_33 ?_
  refine lv_iload_n hx hb dX9_knownByBoth_36 rfl (lv_at hl 1 rfl) ?_
  refine lv_aload_n hx hb dX9_knownByBoth_37 rfl (lv_at hl 2 rfl) ?_
  refine va_get (D := (dC, dI)) (ci := 7) (v := .ref a_now) (C := RX9) (T := TX9) (N := 11) hx hb hts iX9 hown hK hP 0 rfl rfl 3 (by decide) f35 (fun _ h9 => h9) rfl dX9_knownByBoth_38 ?_
  refine va_getN (D := (dC, dI)) (ci := 4) (v := .int v_now_trueDay) (C := RX4) (T := TX4) (N := 6) hx hb hts iX4 hown hK hP 1 rfl rfl 1 (by decide) f141 (fun _ h9 => h9) rfl dX9_knownByBoth_41 ?_
  refine lv_aload_n hx hb dX9_knownByBoth_44 rfl (lv_at hl 2 rfl) ?_
  refine va_get (D := (dC, dI)) (ci := 7) (v := .ref a_theCastle) (C := RX9) (T := TX9) (N := 11) hx hb hts iX9 hown hK hP 0 rfl rfl 2 (by decide) f28 (fun _ h9 => h9) rfl dX9_knownByBoth_45 ?_
  refine va_getN (D := (dC, dI)) (ci := 1) (v := .int v_theCastle_so) (C := RX1) (T := TX1) (N := 5) hx hb hts iX1 hown hK hP 2 rfl rfl 1 (by decide) f148 (fun _ h9 => h9) rfl dX9_knownByBoth_48 ?_
  refine lv_iconst (v := (1 : Int32)) hx hb dX9_knownByBoth_51 (by decide) ?_
  obtain ⟨r6, w7, ho8, hm⟩ := bd2_s hm
  refine kb_calli (Rv := r6) (va_runV (As := [.int r1, .int v_now_trueDay, .int v_theCastle_so, .int (1 : Int32)]) (rest := []) ⟨hx, hb, hml, hown, hts⟩ (c_X5_answerIn l dC dI cI cJ cZ cQ t H.size a_theQuestion a_theQuestion_letters a_theQuestion_letters_bytes a_theQuestion_stack n_theQuestion_letters_bytes v_theQuestion_letters_length v_theQuestion_letters_bytes w4 r1 v_now_trueDay v_theCastle_so (1 : Int32) (r6, w7) ho8) (cwV 4 hts gX9_knownByBoth_X5_answerIn rfl rfl rfl (by decide +kernel) ⟨(Nat.le_of_ble_eq_true rfl), (Nat.le_of_ble_eq_true rfl)⟩) ⟨(kb_pre hK hG hP (kb_D hD rfl) hS hA [3, 4, 5, 6] rfl (by decide)).1, (va_recv hK hP (ci := 5) (q0 := 3) rfl rfl), (kb_pre hK hG hP (kb_D hD rfl) hS hA [3, 4, 5, 6] rfl (by decide)).2⟩ rfl rfl hl.1 rfl (lv_room (Nat.le_of_ble_eq_true rfl)) dX9_knownByBoth_52 ⟨Nat.zero_le _, Nat.zero_le _⟩) hP (kb_D hD rfl) hS hA [3, 4, 5, 6] rfl [(false, 0), (false, 1), (false, 2), (true, 0), (true, 1), (true, 2), (true, 3), (false, 7)] (w2 := [oX9 a_th q_theText (.ref a_theQuestion) (.ref a_theCastle) (.ref a_now) q_theActs q_theTold q_foresight q_keptMoments q_isKept q_marchWorlds (.long v_theSeed), oX4 a_now (.int v_now_date) (.int v_now_trueDay) (.int v_now_wasAsked) (.int v_now_clothState) (.int v_now_cracks) (.ref a_now_known), oX1 a_theCastle (.int v_theCastle_facts) (.int v_theCastle_so) (.int v_theCastle_common) (.int v_theCastle_cases) (.int v_theCastle_firstTrueDay), oX5 a_theQuestion (.ref a_theQuestion_letters) (.ref a_theQuestion_stack), oX3 a_theQuestion_letters (.ref a_theQuestion_letters_bytes) (.int v_theQuestion_letters_length), aI cI a_theQuestion_letters_bytes n_theQuestion_letters_bytes v_theQuestion_letters_bytes, aI cI a_theQuestion_stack 16 w7, aI cI a_now_known 7 v_now_known]) rfl (by decide) (fun H locs hP hS => ?_)
  refine lv_istore_n (lv' := [(3, .int r6), (2, .int r3), (1, .int r1), (0, .ref a_th)]) hx hb dX9_knownByBoth_55 rfl hl (by decide) rfl (fun ls hl => ?_)
  refine lv_iconst (v := (0 : Int32)) hx hb dX9_knownByBoth_56 (by decide) ?_
  refine lv_istore (lv' := [(4, .int (0 : Int32)), (3, .int r6), (2, .int r3), (1, .int r1), (0, .ref a_th)]) hx hb dX9_knownByBoth_57 hl (by decide) rfl (fun ls hl => ?_)
  refine lv_iconst (v := (0 : Int32)) hx hb dX9_knownByBoth_59 (by decide) ?_
  refine lv_istore (lv' := [(5, .int (0 : Int32)), (4, .int (0 : Int32)), (3, .int r6), (2, .int r3), (1, .int r1), (0, .ref a_th)]) hx hb dX9_knownByBoth_60 hl (by decide) rfl (fun ls hl => ?_)
  have lp62 : ∀ (n62 : Nat) (x9 : Int32) (x10 : Int32) (w11 : (Nat → Int32)) (k62 : Int32 → (Nat → Int32) → Option (Int32 × (Nat → Int32))) (H : Heap) (locs : List Loc) (ls : Array Slot), L_X9_knownByBoth_62 v_theQuestion_letters_length v_theQuestion_letters_bytes v_now_known n_theQuestion_letters_bytes r1 r3 r6 n62 x9 x10 w11 k62 = some o → (∀ (x12 : Int32) (w13 : (Nat → Int32)) (H : Heap) (locs : List Loc) (ls : Array Slot), k62 x12 w13 = some o → va_P (dC, dI) vwCl [oX9 a_th q_theText (.ref a_theQuestion) (.ref a_theCastle) (.ref a_now) q_theActs q_theTold q_foresight q_keptMoments q_isKept q_marchWorlds (.long v_theSeed), oX4 a_now (.int v_now_date) (.int v_now_trueDay) (.int v_now_wasAsked) (.int v_now_clothState) (.int v_now_cracks) (.ref a_now_known), oX1 a_theCastle (.int v_theCastle_facts) (.int v_theCastle_so) (.int v_theCastle_common) (.int v_theCastle_cases) (.int v_theCastle_firstTrueDay), oX5 a_theQuestion (.ref a_theQuestion_letters) (.ref a_theQuestion_stack), oX3 a_theQuestion_letters (.ref a_theQuestion_letters_bytes) (.int v_theQuestion_letters_length), aI cI a_theQuestion_letters_bytes n_theQuestion_letters_bytes v_theQuestion_letters_bytes, aI cI a_theQuestion_stack 16 w13, aI cI a_now_known 7 v_now_known] H → va_S A s.heap H locs → lv_has ls 6 [(4, .int x12)] → W p l e (headSpec wsX9_knownByBoth { frames := 5, cells := 0, slots := 0, locals := 119 }).room s m [.ref a_th].toArray below meth c H locs 0 0 Q (F0 m 119 ls [])) → va_P (dC, dI) vwCl [oX9 a_th q_theText (.ref a_theQuestion) (.ref a_theCastle) (.ref a_now) q_theActs q_theTold q_foresight q_keptMoments q_isKept q_marchWorlds (.long v_theSeed), oX4 a_now (.int v_now_date) (.int v_now_trueDay) (.int v_now_wasAsked) (.int v_now_clothState) (.int v_now_cracks) (.ref a_now_known), oX1 a_theCastle (.int v_theCastle_facts) (.int v_theCastle_so) (.int v_theCastle_common) (.int v_theCastle_cases) (.int v_theCastle_firstTrueDay), oX5 a_theQuestion (.ref a_theQuestion_letters) (.ref a_theQuestion_stack), oX3 a_theQuestion_letters (.ref a_theQuestion_letters_bytes) (.int v_theQuestion_letters_length), aI cI a_theQuestion_letters_bytes n_theQuestion_letters_bytes v_theQuestion_letters_bytes, aI cI a_theQuestion_stack 16 w11, aI cI a_now_known 7 v_now_known] H → va_S A s.heap H locs → lv_has ls 6 [(0, .ref a_th), (1, .int r1), (2, .int r3), (3, .int r6), (4, .int x9), (5, .int x10)] → W p l e (headSpec wsX9_knownByBoth { frames := 5, cells := 0, slots := 0, locals := 119 }).room s m [.ref a_th].toArray below meth c H locs 0 0 Q (F0 m 62 ls []) := by
    intro n62
    induction n62 with
    | zero =>
      intro x9 x10 w11 k62 H locs ls hm
      cases (show (none : Option (Int32 × (Nat → Int32))) = some o from hm)
    | succ n62 ih62 =>
      intro x9 x10 w11 k62 H locs ls hm hk62 hP hS hl
      rw [L_X9_knownByBoth_62.eq_2] at hm
      refine lv_iload hx hb dX9_knownByBoth_62 (lv_at hl 5 rfl) ?_
      refine lv_bipush (v := (7 : Int32)) hx hb dX9_knownByBoth_64 (by decide) ?_
      refine lv_icmp_ge (tgt := 119) hx hb dX9_knownByBoth_66 (by decide) (fun c14 => ?_) (fun c14 => ?_)
      · replace hm := ite_t c14 hm
        exact hk62 x9 w11 _ _ _ hm hP hS (lv_sub hl [4] rfl)
      · replace hm := ite_f c14 hm
        refine lv_iload hx hb dX9_knownByBoth_69 (lv_at hl 4 rfl) ?_
        refine lv_aload_n hx hb dX9_knownByBoth_71 rfl (lv_at hl 0 rfl) ?_
        refine va_get (D := (dC, dI)) (ci := 7) (v := .ref a_now) (C := RX9) (T := TX9) (N := 11) hx hb hts iX9 hown hK hP 0 rfl rfl 3 (by decide) f35 (fun _ h9 => h9) rfl dX9_knownByBoth_72 ?_
        refine va_getN (D := (dC, dI)) (ci := 4) (v := .ref a_now_known) (C := RX4) (T := TX4) (N := 6) hx hb hts iX4 hown hK hP 1 rfl rfl 5 (by decide) f113 (fun _ h9 => h9) rfl dX9_knownByBoth_75 ?_
        refine lv_iload hx hb dX9_knownByBoth_78 (lv_at hl 5 rfl) ?_
        obtain ⟨h15, hm⟩ := gd_s hm
        refine va_iald hx hb hK hP 7 0 rfl rfl (inB_s h15) dX9_knownByBoth_80 ?_
        refine lv_aload_n hx hb dX9_knownByBoth_81 rfl (lv_at hl 0 rfl) ?_
        refine va_get (D := (dC, dI)) (ci := 7) (v := .ref a_theQuestion) (C := RX9) (T := TX9) (N := 11) hx hb hts iX9 hown hK hP 0 rfl rfl 1 (by decide) f21 (fun _ h9 => h9) rfl dX9_knownByBoth_82 ?_
        refine lv_iload_n hx hb dX9_knownByBoth_85 rfl (lv_at hl 2 rfl) ?_
        refine lv_iload_n hx hb dX9_knownByBoth_86 rfl (lv_at hl 1 rfl) ?_
        refine lv_iload hx hb dX9_knownByBoth_87 (lv_at hl 5 rfl) ?_
        refine lv_iconst (v := (0 : Int32)) hx hb dX9_knownByBoth_89 (by decide) ?_
        obtain ⟨r16, w17, ho18, hm⟩ := bd2_s hm
        refine kb_calli (Rv := r16) (va_runV (As := [.int r3, .int r1, .int x10, .int (0 : Int32)]) (rest := [.int (v_now_known (Int32.toNatClampNeg x10)), .int x9]) ⟨hx, hb, hml, hown, hts⟩ (c_X5_casesAnswered l dC dI cI cJ cZ cQ t H.size a_theQuestion a_theQuestion_letters a_theQuestion_letters_bytes a_theQuestion_stack n_theQuestion_letters_bytes v_theQuestion_letters_length v_theQuestion_letters_bytes w11 r3 r1 x10 (0 : Int32) (r16, w17) ho18) (cwV 4 hts gX9_knownByBoth_X5_casesAnswered rfl rfl rfl (by decide +kernel) ⟨(Nat.le_of_ble_eq_true rfl), (Nat.le_of_ble_eq_true rfl)⟩) ⟨(kb_pre hK hG hP (kb_D hD rfl) hS hA [3, 4, 5, 6] rfl (by decide)).1, (va_recv hK hP (ci := 5) (q0 := 3) rfl rfl), (kb_pre hK hG hP (kb_D hD rfl) hS hA [3, 4, 5, 6] rfl (by decide)).2⟩ rfl rfl hl.1 rfl (lv_room (Nat.le_of_ble_eq_true rfl)) dX9_knownByBoth_90 ⟨Nat.zero_le _, Nat.zero_le _⟩) hP (kb_D hD rfl) hS hA [3, 4, 5, 6] rfl [(false, 0), (false, 1), (false, 2), (true, 0), (true, 1), (true, 2), (true, 3), (false, 7)] (w2 := [oX9 a_th q_theText (.ref a_theQuestion) (.ref a_theCastle) (.ref a_now) q_theActs q_theTold q_foresight q_keptMoments q_isKept q_marchWorlds (.long v_theSeed), oX4 a_now (.int v_now_date) (.int v_now_trueDay) (.int v_now_wasAsked) (.int v_now_clothState) (.int v_now_cracks) (.ref a_now_known), oX1 a_theCastle (.int v_theCastle_facts) (.int v_theCastle_so) (.int v_theCastle_common) (.int v_theCastle_cases) (.int v_theCastle_firstTrueDay), oX5 a_theQuestion (.ref a_theQuestion_letters) (.ref a_theQuestion_stack), oX3 a_theQuestion_letters (.ref a_theQuestion_letters_bytes) (.int v_theQuestion_letters_length), aI cI a_theQuestion_letters_bytes n_theQuestion_letters_bytes v_theQuestion_letters_bytes, aI cI a_theQuestion_stack 16 w17, aI cI a_now_known 7 v_now_known]) rfl (by decide) (fun H locs hP hS => ?_)
        refine lv_iand hx hb dX9_knownByBoth_93 ?_
        refine lv_aload_n hx hb dX9_knownByBoth_94 rfl (lv_at hl 0 rfl) ?_
        refine va_get (D := (dC, dI)) (ci := 7) (v := .ref a_theQuestion) (C := RX9) (T := TX9) (N := 11) hx hb hts iX9 hown hK hP 0 rfl rfl 1 (by decide) f21 (fun _ h9 => h9) rfl dX9_knownByBoth_95 ?_
        refine lv_iload_n hx hb dX9_knownByBoth_98 rfl (lv_at hl 3 rfl) ?_
        refine lv_iload_n hx hb dX9_knownByBoth_99 rfl (lv_at hl 1 rfl) ?_
        refine lv_iload hx hb dX9_knownByBoth_100 (lv_at hl 5 rfl) ?_
        refine lv_iconst (v := (1 : Int32)) hx hb dX9_knownByBoth_102 (by decide) ?_
        obtain ⟨r19, w20, ho21, hm⟩ := bd2_s hm
        refine kb_calli (Rv := r19) (va_runV (As := [.int r6, .int r1, .int x10, .int (1 : Int32)]) (rest := [.int ((v_now_known (Int32.toNatClampNeg x10)) &&& r16), .int x9]) ⟨hx, hb, hml, hown, hts⟩ (c_X5_casesAnswered l dC dI cI cJ cZ cQ t H.size a_theQuestion a_theQuestion_letters a_theQuestion_letters_bytes a_theQuestion_stack n_theQuestion_letters_bytes v_theQuestion_letters_length v_theQuestion_letters_bytes w17 r6 r1 x10 (1 : Int32) (r19, w20) ho21) (cwV 4 hts gX9_knownByBoth_X5_casesAnswered rfl rfl rfl (by decide +kernel) ⟨(Nat.le_of_ble_eq_true rfl), (Nat.le_of_ble_eq_true rfl)⟩) ⟨(kb_pre hK hG hP (kb_D hD rfl) hS hA [3, 4, 5, 6] rfl (by decide)).1, (va_recv hK hP (ci := 5) (q0 := 3) rfl rfl), (kb_pre hK hG hP (kb_D hD rfl) hS hA [3, 4, 5, 6] rfl (by decide)).2⟩ rfl rfl hl.1 rfl (lv_room (Nat.le_of_ble_eq_true rfl)) dX9_knownByBoth_103 ⟨Nat.zero_le _, Nat.zero_le _⟩) hP (kb_D hD rfl) hS hA [3, 4, 5, 6] rfl [(false, 0), (false, 1), (false, 2), (true, 0), (true, 1), (true, 2), (true, 3), (false, 7)] (w2 := [oX9 a_th q_theText (.ref a_theQuestion) (.ref a_theCastle) (.ref a_now) q_theActs q_theTold q_foresight q_keptMoments q_isKept q_marchWorlds (.long v_theSeed), oX4 a_now (.int v_now_date) (.int v_now_trueDay) (.int v_now_wasAsked) (.int v_now_clothState) (.int v_now_cracks) (.ref a_now_known), oX1 a_theCastle (.int v_theCastle_facts) (.int v_theCastle_so) (.int v_theCastle_common) (.int v_theCastle_cases) (.int v_theCastle_firstTrueDay), oX5 a_theQuestion (.ref a_theQuestion_letters) (.ref a_theQuestion_stack), oX3 a_theQuestion_letters (.ref a_theQuestion_letters_bytes) (.int v_theQuestion_letters_length), aI cI a_theQuestion_letters_bytes n_theQuestion_letters_bytes v_theQuestion_letters_bytes, aI cI a_theQuestion_stack 16 w20, aI cI a_now_known 7 v_now_known]) rfl (by decide) (fun H locs hP hS => ?_)
        refine lv_iand hx hb dX9_knownByBoth_106 ?_
        obtain ⟨r22, ho23, hm⟩ := bd1_s hm
        refine kb_calli (Rv := r22) (va_runS (As := [.int (((v_now_known (Int32.toNatClampNeg x10)) &&& r16) &&& r19)]) (rest := [.int x9]) ⟨hx, hb, hml, hown, hts⟩ (c_J6_bitCount_0f7a4 l dC dI cI cJ cZ cQ t H.size (((v_now_known (Int32.toNatClampNeg x10)) &&& r16) &&& r19) (r22) ho23) (va_cwS 1 hts gX9_knownByBoth_J6_bitCount_0f7a4 rfl rfl rfl (by decide +kernel) ⟨(Nat.le_of_ble_eq_true rfl), (Nat.le_of_ble_eq_true rfl)⟩) (kb_pre hK hG hP (kb_D hD rfl) hS hA [] rfl (by decide)) rfl rfl hl.1 rfl (lv_room (Nat.le_of_ble_eq_true rfl)) dX9_knownByBoth_107 ⟨Nat.zero_le _, Nat.zero_le _⟩) hP (kb_D hD rfl) hS hA [] rfl [(false, 0), (false, 1), (false, 2), (false, 3), (false, 4), (false, 5), (false, 6), (false, 7)] (w2 := [oX9 a_th q_theText (.ref a_theQuestion) (.ref a_theCastle) (.ref a_now) q_theActs q_theTold q_foresight q_keptMoments q_isKept q_marchWorlds (.long v_theSeed), oX4 a_now (.int v_now_date) (.int v_now_trueDay) (.int v_now_wasAsked) (.int v_now_clothState) (.int v_now_cracks) (.ref a_now_known), oX1 a_theCastle (.int v_theCastle_facts) (.int v_theCastle_so) (.int v_theCastle_common) (.int v_theCastle_cases) (.int v_theCastle_firstTrueDay), oX5 a_theQuestion (.ref a_theQuestion_letters) (.ref a_theQuestion_stack), oX3 a_theQuestion_letters (.ref a_theQuestion_letters_bytes) (.int v_theQuestion_letters_length), aI cI a_theQuestion_letters_bytes n_theQuestion_letters_bytes v_theQuestion_letters_bytes, aI cI a_theQuestion_stack 16 w20, aI cI a_now_known 7 v_now_known]) rfl (by decide) (fun H locs hP hS => ?_)
        refine lv_iadd hx hb dX9_knownByBoth_110 ?_
        refine lv_topi (fun x24 ex24 => ?_)
        replace hm := nm_t ex24 hm
        refine lv_istore (lv' := [(4, .int x24), (0, .ref a_th), (1, .int r1), (2, .int r3), (3, .int r6), (5, .int x10)]) hx hb dX9_knownByBoth_111 hl (by decide) rfl (fun ls hl => ?_)
        obtain ⟨x25, ex25⟩ : ∃ y : Int32, y = x10 + (1 : Int32) := ⟨_, rfl⟩
        replace hm := nm_t ex25 hm
        refine lv_iinc (v := x25) (lv' := [(5, .int x25), (4, .int x24), (0, .ref a_th), (1, .int r1), (2, .int r3), (3, .int r6)]) hx hb dX9_knownByBoth_113 hl (k := 5) rfl (by rw [ex25]; rfl) (by decide) rfl (fun ls hl => ?_)
        refine lv_goto (tgt := 62) hx hb dX9_knownByBoth_116 (by decide) ?_
        exact ih62 x24 x25 w20 k62 _ _ _ hm hk62 hP hS (lv_sub hl [2, 3, 4, 5, 1, 0] rfl)
  refine lp62 1024 (0 : Int32) (0 : Int32) w7 _ _ _ _ hm (fun x12 w13 H locs ls hm hP hS hl => ?_) hP hS (lv_sub hl [5, 4, 3, 2, 1, 0] rfl)
  refine lv_iload hx hb dX9_knownByBoth_119 (lv_at hl 0 rfl) ?_
  obtain rfl := Option.some.inj hm
  subst hQ
  exact W.iret hx hb hr (fun t ht hW => ⟨⟨_, (), rfl, rfl, kb_h hP ht⟩, hS.F ht⟩) hS.2.2 dX9_knownByBoth_121
set_option maxHeartbeats 4000000 in
set_option maxRecDepth 100000 in
theorem c_X9_alikeByBoth (l : Launch) (dC : Nat → ClassId) (dI : Nat → Nat → Nat) (cI cJ cZ cQ : ClassId) (t sz : Nat) (a_th : Nat) (a_now : Nat) (a_now_known : Nat) (a_theQuestion : Nat) (a_theQuestion_letters : Nat) (a_theQuestion_letters_bytes : Nat) (a_theQuestion_stack : Nat) (n_theQuestion_letters_bytes : Nat) (q_theText : Value) (q_theCastle : Value) (q_theActs : Value) (q_theTold : Value) (q_foresight : Value) (q_keptMoments : Value) (q_isKept : Value) (q_marchWorlds : Value) (v_theSeed : Int64) (v_now_date : Int32) (v_now_trueDay : Int32) (v_now_wasAsked : Int32) (v_now_clothState : Int32) (v_now_cracks : Int32) (v_now_known : (Nat → Int32)) (v_theQuestion_letters_length : Int32) (v_theQuestion_letters_bytes : (Nat → Int32)) (v_theQuestion_stack : (Nat → Int32)) (o : Int32 × (Nat → Int32)) (hm : m_X9_alikeByBoth n_theQuestion_letters_bytes v_now_date v_now_known v_theQuestion_letters_length v_theQuestion_letters_bytes v_theQuestion_stack = some o) : Met l yX9_alikeByBoth wsX9_alikeByBoth { frames := 4, cells := 0, slots := 0, locals := 95 } (va_Pc [.ref a_th] (cP (dC, dI) (kT cI cJ cZ cQ) t sz [oX9 a_th q_theText (.ref a_theQuestion) q_theCastle (.ref a_now) q_theActs q_theTold q_foresight q_keptMoments q_isKept q_marchWorlds (.long v_theSeed), oX4 a_now (.int v_now_date) (.int v_now_trueDay) (.int v_now_wasAsked) (.int v_now_clothState) (.int v_now_cracks) (.ref a_now_known), aI cI a_now_known 7 v_now_known, oX5 a_theQuestion (.ref a_theQuestion_letters) (.ref a_theQuestion_stack), oX3 a_theQuestion_letters (.ref a_theQuestion_letters_bytes) (.int v_theQuestion_letters_length), aI cI a_theQuestion_letters_bytes n_theQuestion_letters_bytes v_theQuestion_letters_bytes, aI cI a_theQuestion_stack 16 v_theQuestion_stack])) (cQi (dC, dI) (va_A [oX9 a_th q_theText (.ref a_theQuestion) q_theCastle (.ref a_now) q_theActs q_theTold q_foresight q_keptMoments q_isKept q_marchWorlds (.long v_theSeed), oX4 a_now (.int v_now_date) (.int v_now_trueDay) (.int v_now_wasAsked) (.int v_now_clothState) (.int v_now_cracks) (.ref a_now_known), aI cI a_now_known 7 v_now_known, oX5 a_theQuestion (.ref a_theQuestion_letters) (.ref a_theQuestion_stack), oX3 a_theQuestion_letters (.ref a_theQuestion_letters_bytes) (.int v_theQuestion_letters_length), aI cI a_theQuestion_letters_bytes n_theQuestion_letters_bytes v_theQuestion_letters_bytes, aI cI a_theQuestion_stack 16 v_theQuestion_stack] sz) o.1 [oX9 a_th q_theText (.ref a_theQuestion) q_theCastle (.ref a_now) q_theActs q_theTold q_foresight q_keptMoments q_isKept q_marchWorlds (.long v_theSeed), oX4 a_now (.int v_now_date) (.int v_now_trueDay) (.int v_now_wasAsked) (.int v_now_clothState) (.int v_now_cracks) (.ref a_now_known), aI cI a_now_known 7 v_now_known, oX5 a_theQuestion (.ref a_theQuestion_letters) (.ref a_theQuestion_stack), oX3 a_theQuestion_letters (.ref a_theQuestion_letters_bytes) (.int v_theQuestion_letters_length), aI cI a_theQuestion_letters_bytes n_theQuestion_letters_bytes v_theQuestion_letters_bytes, aI cI a_theQuestion_stack 16 (o.2)]) 0 0 (va_A [oX9 a_th q_theText (.ref a_theQuestion) q_theCastle (.ref a_now) q_theActs q_theTold q_foresight q_keptMoments q_isKept q_marchWorlds (.long v_theSeed), oX4 a_now (.int v_now_date) (.int v_now_trueDay) (.int v_now_wasAsked) (.int v_now_clothState) (.int v_now_cracks) (.ref a_now_known), aI cI a_now_known 7 v_now_known, oX5 a_theQuestion (.ref a_theQuestion_letters) (.ref a_theQuestion_stack), oX3 a_theQuestion_letters (.ref a_theQuestion_letters_bytes) (.int v_theQuestion_letters_length), aI cI a_theQuestion_letters_bytes n_theQuestion_letters_bytes v_theQuestion_letters_bytes, aI cI a_theQuestion_stack 16 v_theQuestion_stack] sz) := by
  refine Met.ofW (cc := cX9_alikeByBoth) (maxL := 5) (ret := (some .int)) (by decide) rfl ?_
  intro p e s m args below meth c s₁ B hml hv
  obtain ⟨rfl, hsz, hP, hK, hD0, hG⟩ := hv
  have hx := B.exec
  have hb := B.bytes
  have hr := B.returns
  have hts := atoms_spec (ws := wsX9_alikeByBoth) B.pre
  have hown : s.vm.findClass RX9 = some m.cls := findClass_of_methodNamed B.named
  have hlocks := B.notSynchronized
  subst hsz
  have hD := hD0.self (sz := s.heap.size)
  generalize hAe : va_A [oX9 a_th q_theText (.ref a_theQuestion) q_theCastle (.ref a_now) q_theActs q_theTold q_foresight q_keptMoments q_isKept q_marchWorlds (.long v_theSeed), oX4 a_now (.int v_now_date) (.int v_now_trueDay) (.int v_now_wasAsked) (.int v_now_clothState) (.int v_now_cracks) (.ref a_now_known), aI cI a_now_known 7 v_now_known, oX5 a_theQuestion (.ref a_theQuestion_letters) (.ref a_theQuestion_stack), oX3 a_theQuestion_letters (.ref a_theQuestion_letters_bytes) (.int v_theQuestion_letters_length), aI cI a_theQuestion_letters_bytes n_theQuestion_letters_bytes v_theQuestion_letters_bytes, aI cI a_theQuestion_stack 16 v_theQuestion_stack] s.heap.size = A at hD hG ⊢
  have hA : ∀ q : Nat, s.heap.size ≤ q → A q := fun q h => by rw [← hAe]; exact Or.inr h
  have hS : va_S A s.heap s.heap [] := va_S.rf
  have hl := lv_entry ([.ref a_th]) (n := 5) (Nat.le_of_ble_eq_true rfl)
  rw [lg_entry_eq]
  generalize (lg_sl ([.ref a_th]) ++ List.replicate (5 - (lg_sl ([.ref a_th])).length) Slot.unset).toArray = ls at hl ⊢
  have hl : lv_has ls 5 [(0, .ref a_th)] := hl
  have iX9 : ∀ w ∈ wsX90, w ∈ wsX9_alikeByBoth := fun _ h => List.mem_cons_of_mem _ (List.mem_append_left _ (List.mem_append_left _ (List.mem_append_left _ (List.mem_append_right _ h))))
  have iX4 : ∀ w ∈ wsX40, w ∈ wsX9_alikeByBoth := fun _ h => List.mem_cons_of_mem _ (List.mem_append_left _ (List.mem_append_left _ (List.mem_append_right _ h)))
  have iX5 : ∀ w ∈ wsX50, w ∈ wsX9_alikeByBoth := fun _ h => List.mem_cons_of_mem _ (List.mem_append_left _ (List.mem_append_right _ h))
  have iX3 : ∀ w ∈ wsX30, w ∈ wsX9_alikeByBoth := fun _ h => List.mem_cons_of_mem _ (List.mem_append_right _ h)
  have f35 := hts (.fieldLink RX9 35 "TrueOnceWeek" "now" "LTrueOnceWeek$Moment;") (by decide +kernel)
  have f113 := va_Nw.use (A := [.ref a_th].toArray) (w := .fieldLinkNest RX9 113 "TrueOnceWeek$Moment" "known" "[I" "TrueOnceWeek") rfl (hG.1 (RX9, 113, "TrueOnceWeek$Moment", "known", "[I") (by decide +kernel))
  have f21 := hts (.fieldLink RX9 21 "TrueOnceWeek" "theQuestion" "LTrueOnceWeek$Question;") (by decide +kernel)
  refine kb_gen (fun Q hQ => ?_)
  unfold m_X9_alikeByBoth at hm
  refine lv_aload_n hx hb dX9_alikeByBoth_0 rfl (lv_at hl 0 rfl) ?_
  refine va_get (D := (dC, dI)) (ci := 7) (v := .ref a_now) (C := RX9) (T := TX9) (N := 11) hx hb hts iX9 hown hK hP 0 rfl rfl 3 (by decide) f35 (fun _ h9 => h9) rfl dX9_alikeByBoth_1 ?_
  obtain ⟨r1, ho2, hm⟩ := bd1_s hm
  refine kb_calli (Rv := r1) (va_runV (As := []) (rest := []) ⟨hx, hb, hml, hown, hts⟩ (c_X4_weekday l dC dI cI cJ cZ cQ t s.heap.size a_now (.ref a_now_known) v_now_date v_now_trueDay v_now_wasAsked v_now_clothState v_now_cracks (r1) ho2) (cwV 0 hts gX9_alikeByBoth_X4_weekday rfl rfl rfl (by decide +kernel) ⟨(Nat.le_of_ble_eq_true rfl), (Nat.le_of_ble_eq_true rfl)⟩) ⟨(kb_pre hK hG hP (kb_D hD rfl) hS hA [1] rfl (by decide)).1, (va_recv hK hP (ci := 4) (q0 := 1) rfl rfl), (kb_pre hK hG hP (kb_D hD rfl) hS hA [1] rfl (by decide)).2⟩ rfl rfl hl.1 rfl (lv_room (Nat.le_of_ble_eq_true rfl)) dX9_alikeByBoth_4 ⟨Nat.zero_le _, Nat.zero_le _⟩) hP (kb_D hD rfl) hS hA [1] rfl [(false, 0), (true, 0), (false, 2), (false, 3), (false, 4), (false, 5), (false, 6)] (w2 := [oX9 a_th q_theText (.ref a_theQuestion) q_theCastle (.ref a_now) q_theActs q_theTold q_foresight q_keptMoments q_isKept q_marchWorlds (.long v_theSeed), oX4 a_now (.int v_now_date) (.int v_now_trueDay) (.int v_now_wasAsked) (.int v_now_clothState) (.int v_now_cracks) (.ref a_now_known), aI cI a_now_known 7 v_now_known, oX5 a_theQuestion (.ref a_theQuestion_letters) (.ref a_theQuestion_stack), oX3 a_theQuestion_letters (.ref a_theQuestion_letters_bytes) (.int v_theQuestion_letters_length), aI cI a_theQuestion_letters_bytes n_theQuestion_letters_bytes v_theQuestion_letters_bytes, aI cI a_theQuestion_stack 16 v_theQuestion_stack]) rfl (by decide) (fun H locs hP hS => ?_)
  refine lv_istore_n (lv' := [(1, .int r1), (0, .ref a_th)]) hx hb dX9_alikeByBoth_7 rfl hl (by decide) rfl (fun ls hl => ?_)
  refine lv_iconst (v := (0 : Int32)) hx hb dX9_alikeByBoth_8 (by decide) ?_
  refine lv_istore_n (lv' := [(2, .int (0 : Int32)), (1, .int r1), (0, .ref a_th)]) hx hb dX9_alikeByBoth_9 rfl hl (by decide) rfl (fun ls hl => ?_)
  refine lv_iconst (v := (0 : Int32)) hx hb dX9_alikeByBoth_10 (by decide) ?_
  refine lv_istore_n (lv' := [(3, .int (0 : Int32)), (2, .int (0 : Int32)), (1, .int r1), (0, .ref a_th)]) hx hb dX9_alikeByBoth_11 rfl hl (by decide) rfl (fun ls hl => ?_)
  have lp12 : ∀ (n12 : Nat) (x3 : Int32) (x4 : Int32) (w5 : (Nat → Int32)) (k12 : Int32 → (Nat → Int32) → Option (Int32 × (Nat → Int32))) (H : Heap) (locs : List Loc) (ls : Array Slot), L_X9_alikeByBoth_12 v_now_known v_theQuestion_letters_length v_theQuestion_letters_bytes n_theQuestion_letters_bytes r1 n12 x3 x4 w5 k12 = some o → (∀ (x6 : Int32) (w7 : (Nat → Int32)) (H : Heap) (locs : List Loc) (ls : Array Slot), k12 x6 w7 = some o → va_P (dC, dI) vwCl [oX9 a_th q_theText (.ref a_theQuestion) q_theCastle (.ref a_now) q_theActs q_theTold q_foresight q_keptMoments q_isKept q_marchWorlds (.long v_theSeed), oX4 a_now (.int v_now_date) (.int v_now_trueDay) (.int v_now_wasAsked) (.int v_now_clothState) (.int v_now_cracks) (.ref a_now_known), aI cI a_now_known 7 v_now_known, oX5 a_theQuestion (.ref a_theQuestion_letters) (.ref a_theQuestion_stack), oX3 a_theQuestion_letters (.ref a_theQuestion_letters_bytes) (.int v_theQuestion_letters_length), aI cI a_theQuestion_letters_bytes n_theQuestion_letters_bytes v_theQuestion_letters_bytes, aI cI a_theQuestion_stack 16 w7] H → va_S A s.heap H locs → lv_has ls 5 [(2, .int x6)] → W p l e (headSpec wsX9_alikeByBoth { frames := 4, cells := 0, slots := 0, locals := 95 }).room s m [.ref a_th].toArray below meth c H locs 0 0 Q (F0 m 80 ls [])) → va_P (dC, dI) vwCl [oX9 a_th q_theText (.ref a_theQuestion) q_theCastle (.ref a_now) q_theActs q_theTold q_foresight q_keptMoments q_isKept q_marchWorlds (.long v_theSeed), oX4 a_now (.int v_now_date) (.int v_now_trueDay) (.int v_now_wasAsked) (.int v_now_clothState) (.int v_now_cracks) (.ref a_now_known), aI cI a_now_known 7 v_now_known, oX5 a_theQuestion (.ref a_theQuestion_letters) (.ref a_theQuestion_stack), oX3 a_theQuestion_letters (.ref a_theQuestion_letters_bytes) (.int v_theQuestion_letters_length), aI cI a_theQuestion_letters_bytes n_theQuestion_letters_bytes v_theQuestion_letters_bytes, aI cI a_theQuestion_stack 16 w5] H → va_S A s.heap H locs → lv_has ls 5 [(0, .ref a_th), (1, .int r1), (2, .int x3), (3, .int x4)] → W p l e (headSpec wsX9_alikeByBoth { frames := 4, cells := 0, slots := 0, locals := 95 }).room s m [.ref a_th].toArray below meth c H locs 0 0 Q (F0 m 12 ls []) := by
    intro n12
    induction n12 with
    | zero =>
      intro x3 x4 w5 k12 H locs ls hm
      cases (show (none : Option (Int32 × (Nat → Int32))) = some o from hm)
    | succ n12 ih12 =>
      intro x3 x4 w5 k12 H locs ls hm hk12 hP hS hl
      rw [L_X9_alikeByBoth_12.eq_2] at hm
      refine lv_iload_n hx hb dX9_alikeByBoth_12 rfl (lv_at hl 3 rfl) ?_
      refine lv_bipush (v := (7 : Int32)) hx hb dX9_alikeByBoth_13 (by decide) ?_
      refine lv_icmp_ge (tgt := 80) hx hb dX9_alikeByBoth_15 (by decide) (fun c8 => ?_) (fun c8 => ?_)
      · replace hm := ite_t c8 hm
        exact hk12 x3 w5 _ _ _ hm hP hS (lv_sub hl [2] rfl)
      · replace hm := ite_f c8 hm
        refine lv_iconst (v := (0 : Int32)) hx hb dX9_alikeByBoth_18 (by decide) ?_
        refine lv_istore (lv' := [(4, .int (0 : Int32)), (0, .ref a_th), (1, .int r1), (2, .int x3), (3, .int x4)]) hx hb dX9_alikeByBoth_19 hl (by decide) rfl (fun ls hl => ?_)
        have lp21 : ∀ (n21 : Nat) (x9 : Int32) (x10 : Int32) (w11 : (Nat → Int32)) (k21 : Int32 → (Nat → Int32) → Option (Int32 × (Nat → Int32))) (H : Heap) (locs : List Loc) (ls : Array Slot), L_X9_alikeByBoth_21 v_now_known v_theQuestion_letters_length v_theQuestion_letters_bytes n_theQuestion_letters_bytes r1 x4 n21 x9 x10 w11 k21 = some o → (∀ (x12 : Int32) (w13 : (Nat → Int32)) (H : Heap) (locs : List Loc) (ls : Array Slot), k21 x12 w13 = some o → va_P (dC, dI) vwCl [oX9 a_th q_theText (.ref a_theQuestion) q_theCastle (.ref a_now) q_theActs q_theTold q_foresight q_keptMoments q_isKept q_marchWorlds (.long v_theSeed), oX4 a_now (.int v_now_date) (.int v_now_trueDay) (.int v_now_wasAsked) (.int v_now_clothState) (.int v_now_cracks) (.ref a_now_known), aI cI a_now_known 7 v_now_known, oX5 a_theQuestion (.ref a_theQuestion_letters) (.ref a_theQuestion_stack), oX3 a_theQuestion_letters (.ref a_theQuestion_letters_bytes) (.int v_theQuestion_letters_length), aI cI a_theQuestion_letters_bytes n_theQuestion_letters_bytes v_theQuestion_letters_bytes, aI cI a_theQuestion_stack 16 w13] H → va_S A s.heap H locs → lv_has ls 5 [(0, .ref a_th), (1, .int r1), (2, .int x12), (3, .int x4)] → W p l e (headSpec wsX9_alikeByBoth { frames := 4, cells := 0, slots := 0, locals := 95 }).room s m [.ref a_th].toArray below meth c H locs 0 0 Q (F0 m 74 ls [])) → va_P (dC, dI) vwCl [oX9 a_th q_theText (.ref a_theQuestion) q_theCastle (.ref a_now) q_theActs q_theTold q_foresight q_keptMoments q_isKept q_marchWorlds (.long v_theSeed), oX4 a_now (.int v_now_date) (.int v_now_trueDay) (.int v_now_wasAsked) (.int v_now_clothState) (.int v_now_cracks) (.ref a_now_known), aI cI a_now_known 7 v_now_known, oX5 a_theQuestion (.ref a_theQuestion_letters) (.ref a_theQuestion_stack), oX3 a_theQuestion_letters (.ref a_theQuestion_letters_bytes) (.int v_theQuestion_letters_length), aI cI a_theQuestion_letters_bytes n_theQuestion_letters_bytes v_theQuestion_letters_bytes, aI cI a_theQuestion_stack 16 w11] H → va_S A s.heap H locs → lv_has ls 5 [(0, .ref a_th), (1, .int r1), (2, .int x9), (3, .int x4), (4, .int x10)] → W p l e (headSpec wsX9_alikeByBoth { frames := 4, cells := 0, slots := 0, locals := 95 }).room s m [.ref a_th].toArray below meth c H locs 0 0 Q (F0 m 21 ls []) := by
          intro n21
          induction n21 with
          | zero =>
            intro x9 x10 w11 k21 H locs ls hm
            cases (show (none : Option (Int32 × (Nat → Int32))) = some o from hm)
          | succ n21 ih21 =>
            intro x9 x10 w11 k21 H locs ls hm hk21 hP hS hl
            rw [L_X9_alikeByBoth_21.eq_2] at hm
            refine lv_iload hx hb dX9_alikeByBoth_21 (lv_at hl 4 rfl) ?_
            refine lv_iconst (v := (3 : Int32)) hx hb dX9_alikeByBoth_23 (by decide) ?_
            refine lv_icmp_ge (tgt := 74) hx hb dX9_alikeByBoth_24 (by decide) (fun c14 => ?_) (fun c14 => ?_)
            · replace hm := ite_t c14 hm
              exact hk21 x9 w11 _ _ _ hm hP hS (lv_sub hl [0, 1, 2, 3] rfl)
            · replace hm := ite_f c14 hm
              refine lv_iload_n hx hb dX9_alikeByBoth_27 rfl (lv_at hl 2 rfl) ?_
              refine lv_aload_n hx hb dX9_alikeByBoth_28 rfl (lv_at hl 0 rfl) ?_
              refine va_get (D := (dC, dI)) (ci := 7) (v := .ref a_now) (C := RX9) (T := TX9) (N := 11) hx hb hts iX9 hown hK hP 0 rfl rfl 3 (by decide) f35 (fun _ h9 => h9) rfl dX9_alikeByBoth_29 ?_
              refine va_getN (D := (dC, dI)) (ci := 4) (v := .ref a_now_known) (C := RX4) (T := TX4) (N := 6) hx hb hts iX4 hown hK hP 1 rfl rfl 5 (by decide) f113 (fun _ h9 => h9) rfl dX9_alikeByBoth_32 ?_
              refine lv_iload_n hx hb dX9_alikeByBoth_35 rfl (lv_at hl 3 rfl) ?_
              obtain ⟨h15, hm⟩ := gd_s hm
              refine va_iald hx hb hK hP 2 0 rfl rfl (inB_s h15) dX9_alikeByBoth_36 ?_
              refine lv_aload_n hx hb dX9_alikeByBoth_37 rfl (lv_at hl 0 rfl) ?_
              refine va_get (D := (dC, dI)) (ci := 7) (v := .ref a_theQuestion) (C := RX9) (T := TX9) (N := 11) hx hb hts iX9 hown hK hP 0 rfl rfl 1 (by decide) f21 (fun _ h9 => h9) rfl dX9_alikeByBoth_38 ?_
              refine lv_iload hx hb dX9_alikeByBoth_41 (lv_at hl 4 rfl) ?_
              refine lv_iload_n hx hb dX9_alikeByBoth_43 rfl (lv_at hl 1 rfl) ?_
              refine lv_iload_n hx hb dX9_alikeByBoth_44 rfl (lv_at hl 3 rfl) ?_
              refine lv_iconst (v := (0 : Int32)) hx hb dX9_alikeByBoth_45 (by decide) ?_
              obtain ⟨r16, w17, ho18, hm⟩ := bd2_s hm
              refine kb_calli (Rv := r16) (va_runV (As := [.int x10, .int r1, .int x4, .int (0 : Int32)]) (rest := [.int (v_now_known (Int32.toNatClampNeg x4)), .int x9]) ⟨hx, hb, hml, hown, hts⟩ (c_X5_casesAnswered l dC dI cI cJ cZ cQ t H.size a_theQuestion a_theQuestion_letters a_theQuestion_letters_bytes a_theQuestion_stack n_theQuestion_letters_bytes v_theQuestion_letters_length v_theQuestion_letters_bytes w11 x10 r1 x4 (0 : Int32) (r16, w17) ho18) (cwV 4 hts gX9_alikeByBoth_X5_casesAnswered rfl rfl rfl (by decide +kernel) ⟨(Nat.le_of_ble_eq_true rfl), (Nat.le_of_ble_eq_true rfl)⟩) ⟨(kb_pre hK hG hP (kb_D hD rfl) hS hA [3, 4, 5, 6] rfl (by decide)).1, (va_recv hK hP (ci := 5) (q0 := 3) rfl rfl), (kb_pre hK hG hP (kb_D hD rfl) hS hA [3, 4, 5, 6] rfl (by decide)).2⟩ rfl rfl hl.1 rfl (lv_room (Nat.le_of_ble_eq_true rfl)) dX9_alikeByBoth_46 ⟨Nat.zero_le _, Nat.zero_le _⟩) hP (kb_D hD rfl) hS hA [3, 4, 5, 6] rfl [(false, 0), (false, 1), (false, 2), (true, 0), (true, 1), (true, 2), (true, 3)] (w2 := [oX9 a_th q_theText (.ref a_theQuestion) q_theCastle (.ref a_now) q_theActs q_theTold q_foresight q_keptMoments q_isKept q_marchWorlds (.long v_theSeed), oX4 a_now (.int v_now_date) (.int v_now_trueDay) (.int v_now_wasAsked) (.int v_now_clothState) (.int v_now_cracks) (.ref a_now_known), aI cI a_now_known 7 v_now_known, oX5 a_theQuestion (.ref a_theQuestion_letters) (.ref a_theQuestion_stack), oX3 a_theQuestion_letters (.ref a_theQuestion_letters_bytes) (.int v_theQuestion_letters_length), aI cI a_theQuestion_letters_bytes n_theQuestion_letters_bytes v_theQuestion_letters_bytes, aI cI a_theQuestion_stack 16 w17]) rfl (by decide) (fun H locs hP hS => ?_)
              refine lv_iand hx hb dX9_alikeByBoth_49 ?_
              refine lv_aload_n hx hb dX9_alikeByBoth_50 rfl (lv_at hl 0 rfl) ?_
              refine va_get (D := (dC, dI)) (ci := 7) (v := .ref a_theQuestion) (C := RX9) (T := TX9) (N := 11) hx hb hts iX9 hown hK hP 0 rfl rfl 1 (by decide) f21 (fun _ h9 => h9) rfl dX9_alikeByBoth_51 ?_
              refine lv_iload hx hb dX9_alikeByBoth_54 (lv_at hl 4 rfl) ?_
              refine lv_iload_n hx hb dX9_alikeByBoth_56 rfl (lv_at hl 1 rfl) ?_
              refine lv_iload_n hx hb dX9_alikeByBoth_57 rfl (lv_at hl 3 rfl) ?_
              refine lv_iconst (v := (1 : Int32)) hx hb dX9_alikeByBoth_58 (by decide) ?_
              obtain ⟨r19, w20, ho21, hm⟩ := bd2_s hm
              refine kb_calli (Rv := r19) (va_runV (As := [.int x10, .int r1, .int x4, .int (1 : Int32)]) (rest := [.int ((v_now_known (Int32.toNatClampNeg x4)) &&& r16), .int x9]) ⟨hx, hb, hml, hown, hts⟩ (c_X5_casesAnswered l dC dI cI cJ cZ cQ t H.size a_theQuestion a_theQuestion_letters a_theQuestion_letters_bytes a_theQuestion_stack n_theQuestion_letters_bytes v_theQuestion_letters_length v_theQuestion_letters_bytes w17 x10 r1 x4 (1 : Int32) (r19, w20) ho21) (cwV 4 hts gX9_alikeByBoth_X5_casesAnswered rfl rfl rfl (by decide +kernel) ⟨(Nat.le_of_ble_eq_true rfl), (Nat.le_of_ble_eq_true rfl)⟩) ⟨(kb_pre hK hG hP (kb_D hD rfl) hS hA [3, 4, 5, 6] rfl (by decide)).1, (va_recv hK hP (ci := 5) (q0 := 3) rfl rfl), (kb_pre hK hG hP (kb_D hD rfl) hS hA [3, 4, 5, 6] rfl (by decide)).2⟩ rfl rfl hl.1 rfl (lv_room (Nat.le_of_ble_eq_true rfl)) dX9_alikeByBoth_59 ⟨Nat.zero_le _, Nat.zero_le _⟩) hP (kb_D hD rfl) hS hA [3, 4, 5, 6] rfl [(false, 0), (false, 1), (false, 2), (true, 0), (true, 1), (true, 2), (true, 3)] (w2 := [oX9 a_th q_theText (.ref a_theQuestion) q_theCastle (.ref a_now) q_theActs q_theTold q_foresight q_keptMoments q_isKept q_marchWorlds (.long v_theSeed), oX4 a_now (.int v_now_date) (.int v_now_trueDay) (.int v_now_wasAsked) (.int v_now_clothState) (.int v_now_cracks) (.ref a_now_known), aI cI a_now_known 7 v_now_known, oX5 a_theQuestion (.ref a_theQuestion_letters) (.ref a_theQuestion_stack), oX3 a_theQuestion_letters (.ref a_theQuestion_letters_bytes) (.int v_theQuestion_letters_length), aI cI a_theQuestion_letters_bytes n_theQuestion_letters_bytes v_theQuestion_letters_bytes, aI cI a_theQuestion_stack 16 w20]) rfl (by decide) (fun H locs hP hS => ?_)
              refine lv_iand hx hb dX9_alikeByBoth_62 ?_
              obtain ⟨r22, ho23, hm⟩ := bd1_s hm
              refine kb_calli (Rv := r22) (va_runS (As := [.int (((v_now_known (Int32.toNatClampNeg x4)) &&& r16) &&& r19)]) (rest := [.int x9]) ⟨hx, hb, hml, hown, hts⟩ (c_J6_bitCount_0f7a4 l dC dI cI cJ cZ cQ t H.size (((v_now_known (Int32.toNatClampNeg x4)) &&& r16) &&& r19) (r22) ho23) (va_cwS 1 hts gX9_alikeByBoth_J6_bitCount_0f7a4 rfl rfl rfl (by decide +kernel) ⟨(Nat.le_of_ble_eq_true rfl), (Nat.le_of_ble_eq_true rfl)⟩) (kb_pre hK hG hP (kb_D hD rfl) hS hA [] rfl (by decide)) rfl rfl hl.1 rfl (lv_room (Nat.le_of_ble_eq_true rfl)) dX9_alikeByBoth_63 ⟨Nat.zero_le _, Nat.zero_le _⟩) hP (kb_D hD rfl) hS hA [] rfl [(false, 0), (false, 1), (false, 2), (false, 3), (false, 4), (false, 5), (false, 6)] (w2 := [oX9 a_th q_theText (.ref a_theQuestion) q_theCastle (.ref a_now) q_theActs q_theTold q_foresight q_keptMoments q_isKept q_marchWorlds (.long v_theSeed), oX4 a_now (.int v_now_date) (.int v_now_trueDay) (.int v_now_wasAsked) (.int v_now_clothState) (.int v_now_cracks) (.ref a_now_known), aI cI a_now_known 7 v_now_known, oX5 a_theQuestion (.ref a_theQuestion_letters) (.ref a_theQuestion_stack), oX3 a_theQuestion_letters (.ref a_theQuestion_letters_bytes) (.int v_theQuestion_letters_length), aI cI a_theQuestion_letters_bytes n_theQuestion_letters_bytes v_theQuestion_letters_bytes, aI cI a_theQuestion_stack 16 w20]) rfl (by decide) (fun H locs hP hS => ?_)
              refine lv_iadd hx hb dX9_alikeByBoth_66 ?_
              refine lv_topi (fun x24 ex24 => ?_)
              replace hm := nm_t ex24 hm
              refine lv_istore_n (lv' := [(2, .int x24), (0, .ref a_th), (1, .int r1), (3, .int x4), (4, .int x10)]) hx hb dX9_alikeByBoth_67 rfl hl (by decide) rfl (fun ls hl => ?_)
              obtain ⟨x25, ex25⟩ : ∃ y : Int32, y = x10 + (1 : Int32) := ⟨_, rfl⟩
              replace hm := nm_t ex25 hm
              refine lv_iinc (v := x25) (lv' := [(4, .int x25), (2, .int x24), (0, .ref a_th), (1, .int r1), (3, .int x4)]) hx hb dX9_alikeByBoth_68 hl (k := 4) rfl (by rw [ex25]; rfl) (by decide) rfl (fun ls hl => ?_)
              refine lv_goto (tgt := 21) hx hb dX9_alikeByBoth_71 (by decide) ?_
              exact ih21 x24 x25 w20 k21 _ _ _ hm hk21 hP hS (lv_sub hl [2, 3, 1, 4, 0] rfl)
        refine lp21 1024 x3 (0 : Int32) w5 _ _ _ _ hm (fun x12 w13 H locs ls hm hP hS hl => ?_) hP hS (lv_sub hl [1, 2, 3, 4, 0] rfl)
        obtain ⟨x26, ex26⟩ : ∃ y : Int32, y = x4 + (1 : Int32) := ⟨_, rfl⟩
        replace hm := nm_t ex26 hm
        refine lv_iinc (v := x26) (lv' := [(3, .int x26), (0, .ref a_th), (1, .int r1), (2, .int x12)]) hx hb dX9_alikeByBoth_74 hl (k := 3) rfl (by rw [ex26]; rfl) (by decide) rfl (fun ls hl => ?_)
        refine lv_goto (tgt := 12) hx hb dX9_alikeByBoth_77 (by decide) ?_
        exact ih12 x12 x26 w13 k12 _ _ _ hm hk12 hP hS (lv_sub hl [1, 2, 3, 0] rfl)
  refine lp12 1024 (0 : Int32) (0 : Int32) v_theQuestion_stack _ _ _ _ hm (fun x6 w7 H locs ls hm hP hS hl => ?_) hP hS (lv_sub hl [3, 2, 1, 0] rfl)
  refine lv_iload_n hx hb dX9_alikeByBoth_80 rfl (lv_at hl 0 rfl) ?_
  obtain rfl := Option.some.inj hm
  subst hQ
  exact W.iret hx hb hr (fun t ht hW => ⟨⟨_, (), rfl, rfl, kb_h hP ht⟩, hS.F ht⟩) hS.2.2 dX9_alikeByBoth_81
