set_option maxHeartbeats 4000000 in
set_option maxRecDepth 100000 in
theorem c_X8_trueDays (l : Launch) (dC : Nat → ClassId) (dI : Nat → Nat → Nat) (cI cJ cZ cQ : ClassId) (t sz : Nat) (a_p0 : Nat) (n_p0 : Nat) (v_p0 : (Nat → Int32)) (o : Int32) (hm : m_X8_trueDays n_p0 v_p0 = some o) : Met l yX8_trueDays wsX8_trueDays { frames := 0, cells := 0, slots := 0, locals := 0 } (va_Pc [.ref a_p0] (cP (dC, dI) (kT cI cJ cZ cQ) t sz [aI cI a_p0 n_p0 v_p0])) (cQi (dC, dI) (va_A [aI cI a_p0 n_p0 v_p0] sz) o [aI cI a_p0 n_p0 v_p0]) 0 0 (va_A [aI cI a_p0 n_p0 v_p0] sz) := by
  refine Met.ofW (cc := cX8_trueDays) (maxL := 3) (ret := (some .int)) (by decide) rfl ?_
  intro p e s m args below meth c s₁ B hml hv
  obtain ⟨rfl, hsz, hP, hK, hD0, hG⟩ := hv
  have hx := B.exec
  have hb := B.bytes
  have hr := B.returns
  have hts := atoms_spec (ws := wsX8_trueDays) B.pre
  have hown : s.vm.findClass RX8 = some m.cls := findClass_of_methodNamed B.named
  have hlocks := B.notSynchronized
  subst hsz
  have hD := hD0.self (sz := s.heap.size)
  generalize hAe : va_A [aI cI a_p0 n_p0 v_p0] s.heap.size = A at hD hG ⊢
  have hA : ∀ q : Nat, s.heap.size ≤ q → A q := fun q h => by rw [← hAe]; exact Or.inr h
  have hS : va_S A s.heap s.heap [] := va_S.rf
  have hl := lv_entry ([.ref a_p0]) (n := 3) (Nat.le_of_ble_eq_true rfl)
  rw [lg_entry_eq]
  generalize (lg_sl ([.ref a_p0]) ++ List.replicate (3 - (lg_sl ([.ref a_p0])).length) Slot.unset).toArray = ls at hl ⊢
  have hl : lv_has ls 3 [(0, .ref a_p0)] := hl
  refine kb_gen (fun Q hQ => ?_)
  unfold m_X8_trueDays at hm
  refine lv_iconst (v := (0 : Int32)) hx hb dX8_trueDays_0 (by decide) ?_
  refine lv_istore_n (lv' := [(1, .int (0 : Int32)), (0, .ref a_p0)]) hx hb dX8_trueDays_1 rfl hl (by decide) rfl (fun ls hl => ?_)
  refine lv_iconst (v := (0 : Int32)) hx hb dX8_trueDays_2 (by decide) ?_
  refine lv_istore_n (lv' := [(2, .int (0 : Int32)), (1, .int (0 : Int32)), (0, .ref a_p0)]) hx hb dX8_trueDays_3 rfl hl (by decide) rfl (fun ls hl => ?_)
  have lp4 : ∀ (n4 : Nat) (x1 : Int32) (x2 : Int32) (k4 : Int32 → Option (Int32)) (H : Heap) (locs : List Loc) (ls : Array Slot), L_X8_trueDays_4 v_p0 n_p0 n4 x1 x2 k4 = some o → (∀ (x3 : Int32) (H : Heap) (locs : List Loc) (ls : Array Slot), k4 x3 = some o → va_P (dC, dI) vwCl [aI cI a_p0 n_p0 v_p0] H → va_S A s.heap H locs → lv_has ls 3 [(1, .int x3)] → W p l e (headSpec wsX8_trueDays { frames := 0, cells := 0, slots := 0, locals := 0 }).room s m [.ref a_p0].toArray below meth c H locs 0 0 Q (F0 m 28 ls [])) → va_P (dC, dI) vwCl [aI cI a_p0 n_p0 v_p0] H → va_S A s.heap H locs → lv_has ls 3 [(0, .ref a_p0), (1, .int x1), (2, .int x2)] → W p l e (headSpec wsX8_trueDays { frames := 0, cells := 0, slots := 0, locals := 0 }).room s m [.ref a_p0].toArray below meth c H locs 0 0 Q (F0 m 4 ls []) := by
    intro n4
    induction n4 with
    | zero =>
      intro x1 x2 k4 H locs ls hm
      cases (show (none : Option (Int32)) = some o from hm)
    | succ n4 ih4 =>
      intro x1 x2 k4 H locs ls hm hk4 hP hS hl
      rw [L_X8_trueDays_4.eq_2] at hm
      refine lv_iload_n hx hb dX8_trueDays_4 rfl (lv_at hl 2 rfl) ?_
      refine lv_aload_n hx hb dX8_trueDays_5 rfl (lv_at hl 0 rfl) ?_
      refine va_alen (v := (Int32.ofNat n_p0)) hx hb hK hP 0 0 rfl rfl rfl dX8_trueDays_6 ?_
      refine lv_icmp_ge (tgt := 28) hx hb dX8_trueDays_7 (by decide) (fun c4 => ?_) (fun c4 => ?_)
      · replace hm := ite_t c4 hm
        exact hk4 x1 _ _ _ hm hP hS (lv_sub hl [1] rfl)
      · replace hm := ite_f c4 hm
        refine lv_aload_n hx hb dX8_trueDays_10 rfl (lv_at hl 0 rfl) ?_
        refine lv_iload_n hx hb dX8_trueDays_11 rfl (lv_at hl 2 rfl) ?_
        obtain ⟨h5, hm⟩ := gd_s hm
        refine va_iald hx hb hK hP 0 0 rfl rfl (inB_s h5) dX8_trueDays_12 ?_
        obtain ⟨k22, ek22, hm⟩ := nm_s hm
        have J22 : ∀ (x6 : Int32) (H : Heap) (locs : List Loc) (ls : Array Slot), k22 x6 = some o → va_P (dC, dI) vwCl [aI cI a_p0 n_p0 v_p0] H → va_S A s.heap H locs → lv_has ls 3 [(0, .ref a_p0), (1, .int x6), (2, .int x2)] → W p l e (headSpec wsX8_trueDays { frames := 0, cells := 0, slots := 0, locals := 0 }).room s m [.ref a_p0].toArray below meth c H locs 0 0 Q (F0 m 22 ls []) := by
          intro x6 H locs ls hm hP hS hl
          rw [ek22] at hm
          obtain ⟨x7, ex7⟩ : ∃ y : Int32, y = x2 + (1 : Int32) := ⟨_, rfl⟩
          replace hm := nm_t ex7 hm
          refine lv_iinc (v := x7) (lv' := [(2, .int x7), (0, .ref a_p0), (1, .int x6)]) hx hb dX8_trueDays_22 hl (k := 2) rfl (by rw [ex7]; rfl) (by decide) rfl (fun ls hl => ?_)
          refine lv_goto (tgt := 4) hx hb dX8_trueDays_25 (by decide) ?_
          exact ih4 x6 x7 k4 _ _ _ hm hk4 hP hS (lv_sub hl [1, 2, 0] rfl)
        refine lv_if_eq (tgt := 22) hx hb dX8_trueDays_13 (by decide) (fun c8 => ?_) (fun c8 => ?_)
        · replace hm := ite_t c8 hm
          exact J22 x1 _ _ _ hm hP hS (lv_sub hl [0, 1, 2] rfl)
        · replace hm := ite_f c8 hm
          refine lv_iload_n hx hb dX8_trueDays_16 rfl (lv_at hl 1 rfl) ?_
          refine lv_iconst (v := (1 : Int32)) hx hb dX8_trueDays_17 (by decide) ?_
          refine lv_iload_n hx hb dX8_trueDays_18 rfl (lv_at hl 2 rfl) ?_
          refine lv_ishl hx hb dX8_trueDays_19 ?_
          refine lv_ior hx hb dX8_trueDays_20 ?_
          refine lv_topi (fun x9 ex9 => ?_)
          replace hm := nm_t ex9 hm
          refine lv_istore_n (lv' := [(1, .int x9), (0, .ref a_p0), (2, .int x2)]) hx hb dX8_trueDays_21 rfl hl (by decide) rfl (fun ls hl => ?_)
          exact J22 x9 _ _ _ hm hP hS (lv_sub hl [1, 0, 2] rfl)
  refine lp4 1024 (0 : Int32) (0 : Int32) _ _ _ _ hm (fun x3 H locs ls hm hP hS hl => ?_) hP hS (lv_sub hl [2, 1, 0] rfl)
  refine lv_iload_n hx hb dX8_trueDays_28 rfl (lv_at hl 0 rfl) ?_
  obtain rfl := Option.some.inj hm
  subst hQ
  exact W.iret hx hb hr (fun t ht hW => ⟨⟨_, (), rfl, rfl, kb_h hP ht⟩, hS.F ht⟩) hS.2.2 dX8_trueDays_29
set_option maxHeartbeats 4000000 in
set_option maxRecDepth 100000 in
theorem c_J6_bitCount_0f7a4 (l : Launch) (dC : Nat → ClassId) (dI : Nat → Nat → Nat) (cI cJ cZ cQ : ClassId) (t sz : Nat) (p_0 : Int32) (o : Int32) (hm : m_J6_bitCount_0f7a4 p_0 = some o) : Met l yJ6_bitCount_0f7a4 wsJ6_bitCount_0f7a4 { frames := 0, cells := 0, slots := 0, locals := 0 } (va_Pc [.int p_0] (cP (dC, dI) (kT cI cJ cZ cQ) t sz [])) (cQi (dC, dI) (va_A [] sz) o []) 0 0 (va_A [] sz) := by
  refine Met.ofW (cc := cJ6_bitCount_0f7a4) (maxL := 1) (ret := (some .int)) (by decide) rfl ?_
  intro p e s m args below meth c s₁ B hml hv
  obtain ⟨rfl, hsz, hP, hK, hD0, hG⟩ := hv
  have hx := B.exec
  have hb := B.bytes
  have hr := B.returns
  have hts := atoms_spec (ws := wsJ6_bitCount_0f7a4) B.pre
  have hown : s.vm.findClass RJ6 = some m.cls := findClass_of_methodNamed B.named
  have hlocks := B.notSynchronized
  subst hsz
  have hD := hD0.self (sz := s.heap.size)
  generalize hAe : va_A [] s.heap.size = A at hD hG ⊢
  have hA : ∀ q : Nat, s.heap.size ≤ q → A q := fun q h => by rw [← hAe]; exact Or.inr h
  have hS : va_S A s.heap s.heap [] := va_S.rf
  have hl := lv_entry ([.int p_0]) (n := 1) (Nat.le_of_ble_eq_true rfl)
  rw [lg_entry_eq]
  generalize (lg_sl ([.int p_0]) ++ List.replicate (1 - (lg_sl ([.int p_0])).length) Slot.unset).toArray = ls at hl ⊢
  have hl : lv_has ls 1 [(0, .int p_0)] := hl
  have cl265 := hts (.constant RJ6 265 (1431655765 : Int32)) (by decide +kernel)
  have cl266 := hts (.constant RJ6 266 (858993459 : Int32)) (by decide +kernel)
  have cl267 := hts (.constant RJ6 267 (252645135 : Int32)) (by decide +kernel)
  refine kb_gen (fun Q hQ => ?_)
  unfold m_J6_bitCount_0f7a4 at hm
  refine lv_iload_n hx hb dJ6_bitCount_0f7a4_0 rfl (lv_at hl 0 rfl) ?_
  refine lv_iload_n hx hb dJ6_bitCount_0f7a4_1 rfl (lv_at hl 0 rfl) ?_
  refine lv_iconst (v := (1 : Int32)) hx hb dJ6_bitCount_0f7a4_2 (by decide) ?_
  refine lv_iushr (v := (j_iushr p_0 (1 : Int32))) hx hb dJ6_bitCount_0f7a4_3 rfl ?_
  refine lv_ldcw (v := (1431655765 : Int32)) hx hb hown cl265 dJ6_bitCount_0f7a4_4 ?_
  refine lv_iand hx hb dJ6_bitCount_0f7a4_7 ?_
  refine lv_isub hx hb dJ6_bitCount_0f7a4_8 ?_
  refine lv_topi (fun x1 ex1 => ?_)
  replace hm := nm_t ex1 hm
  refine lv_istore_n (lv' := [(0, .int x1)]) hx hb dJ6_bitCount_0f7a4_9 rfl hl (by decide) rfl (fun ls hl => ?_)
  refine lv_iload_n hx hb dJ6_bitCount_0f7a4_10 rfl (lv_at hl 0 rfl) ?_
  refine lv_ldcw (v := (858993459 : Int32)) hx hb hown cl266 dJ6_bitCount_0f7a4_11 ?_
  refine lv_iand hx hb dJ6_bitCount_0f7a4_14 ?_
  refine lv_iload_n hx hb dJ6_bitCount_0f7a4_15 rfl (lv_at hl 0 rfl) ?_
  refine lv_iconst (v := (2 : Int32)) hx hb dJ6_bitCount_0f7a4_16 (by decide) ?_
  refine lv_iushr (v := (j_iushr x1 (2 : Int32))) hx hb dJ6_bitCount_0f7a4_17 rfl ?_
  refine lv_ldcw (v := (858993459 : Int32)) hx hb hown cl266 dJ6_bitCount_0f7a4_18 ?_
  refine lv_iand hx hb dJ6_bitCount_0f7a4_21 ?_
  refine lv_iadd hx hb dJ6_bitCount_0f7a4_22 ?_
  refine lv_topi (fun x2 ex2 => ?_)
  replace hm := nm_t ex2 hm
  refine lv_istore_n (lv' := [(0, .int x2)]) hx hb dJ6_bitCount_0f7a4_23 rfl hl (by decide) rfl (fun ls hl => ?_)
  refine lv_iload_n hx hb dJ6_bitCount_0f7a4_24 rfl (lv_at hl 0 rfl) ?_
  refine lv_iload_n hx hb dJ6_bitCount_0f7a4_25 rfl (lv_at hl 0 rfl) ?_
  refine lv_iconst (v := (4 : Int32)) hx hb dJ6_bitCount_0f7a4_26 (by decide) ?_
  refine lv_iushr (v := (j_iushr x2 (4 : Int32))) hx hb dJ6_bitCount_0f7a4_27 rfl ?_
  refine lv_iadd hx hb dJ6_bitCount_0f7a4_28 ?_
  refine lv_ldcw (v := (252645135 : Int32)) hx hb hown cl267 dJ6_bitCount_0f7a4_29 ?_
  refine lv_iand hx hb dJ6_bitCount_0f7a4_32 ?_
  refine lv_topi (fun x3 ex3 => ?_)
  replace hm := nm_t ex3 hm
  refine lv_istore_n (lv' := [(0, .int x3)]) hx hb dJ6_bitCount_0f7a4_33 rfl hl (by decide) rfl (fun ls hl => ?_)
  refine lv_iload_n hx hb dJ6_bitCount_0f7a4_34 rfl (lv_at hl 0 rfl) ?_
  refine lv_iload_n hx hb dJ6_bitCount_0f7a4_35 rfl (lv_at hl 0 rfl) ?_
  refine lv_bipush (v := (8 : Int32)) hx hb dJ6_bitCount_0f7a4_36 (by decide) ?_
  refine lv_iushr (v := (j_iushr x3 (8 : Int32))) hx hb dJ6_bitCount_0f7a4_38 rfl ?_
  refine lv_iadd hx hb dJ6_bitCount_0f7a4_39 ?_
  refine lv_topi (fun x4 ex4 => ?_)
  replace hm := nm_t ex4 hm
  refine lv_istore_n (lv' := [(0, .int x4)]) hx hb dJ6_bitCount_0f7a4_40 rfl hl (by decide) rfl (fun ls hl => ?_)
  refine lv_iload_n hx hb dJ6_bitCount_0f7a4_41 rfl (lv_at hl 0 rfl) ?_
  refine lv_iload_n hx hb dJ6_bitCount_0f7a4_42 rfl (lv_at hl 0 rfl) ?_
  refine lv_bipush (v := (16 : Int32)) hx hb dJ6_bitCount_0f7a4_43 (by decide) ?_
  refine lv_iushr (v := (j_iushr x4 (16 : Int32))) hx hb dJ6_bitCount_0f7a4_45 rfl ?_
  refine lv_iadd hx hb dJ6_bitCount_0f7a4_46 ?_
  refine lv_topi (fun x5 ex5 => ?_)
  replace hm := nm_t ex5 hm
  refine lv_istore_n (lv' := [(0, .int x5)]) hx hb dJ6_bitCount_0f7a4_47 rfl hl (by decide) rfl (fun ls hl => ?_)
  refine lv_iload_n hx hb dJ6_bitCount_0f7a4_48 rfl (lv_at hl 0 rfl) ?_
  refine lv_bipush (v := (63 : Int32)) hx hb dJ6_bitCount_0f7a4_49 (by decide) ?_
  refine lv_iand hx hb dJ6_bitCount_0f7a4_51 ?_
  obtain rfl := Option.some.inj hm
  subst hQ
  exact W.iret hx hb hr (fun t ht hW => ⟨⟨_, (), rfl, rfl, kb_h hP ht⟩, hS.F ht⟩) hS.2.2 dJ6_bitCount_0f7a4_52
set_option maxHeartbeats 4000000 in
set_option maxRecDepth 100000 in
theorem c_X8_count (l : Launch) (dC : Nat → ClassId) (dI : Nat → Nat → Nat) (cI cJ cZ cQ : ClassId) (t sz : Nat) (a_p0 : Nat) (n_p0 : Nat) (v_p0 : (Nat → Int32)) (o : Int32) (hm : m_X8_count n_p0 v_p0 = some o) : Met l yX8_count wsX8_count { frames := 1, cells := 0, slots := 0, locals := 20 } (va_Pc [.ref a_p0] (cP (dC, dI) (kT cI cJ cZ cQ) t sz [aI cI a_p0 n_p0 v_p0])) (cQi (dC, dI) (va_A [aI cI a_p0 n_p0 v_p0] sz) o [aI cI a_p0 n_p0 v_p0]) 0 0 (va_A [aI cI a_p0 n_p0 v_p0] sz) := by
  refine Met.ofW (cc := cX8_count) (maxL := 6) (ret := (some .int)) (by decide) rfl ?_
  intro p e s m args below meth c s₁ B hml hv
  obtain ⟨rfl, hsz, hP, hK, hD0, hG⟩ := hv
  have hx := B.exec
  have hb := B.bytes
  have hr := B.returns
  have hts := atoms_spec (ws := wsX8_count) B.pre
  have hown : s.vm.findClass RX8 = some m.cls := findClass_of_methodNamed B.named
  have hlocks := B.notSynchronized
  subst hsz
  have hD := hD0.self (sz := s.heap.size)
  generalize hAe : va_A [aI cI a_p0 n_p0 v_p0] s.heap.size = A at hD hG ⊢
  have hA : ∀ q : Nat, s.heap.size ≤ q → A q := fun q h => by rw [← hAe]; exact Or.inr h
  have hS : va_S A s.heap s.heap [] := va_S.rf
  have hl := lv_entry ([.ref a_p0]) (n := 6) (Nat.le_of_ble_eq_true rfl)
  rw [lg_entry_eq]
  generalize (lg_sl ([.ref a_p0]) ++ List.replicate (6 - (lg_sl ([.ref a_p0])).length) Slot.unset).toArray = ls at hl ⊢
  have hl : lv_has ls 6 [(0, .ref a_p0)] := hl
  refine kb_gen (fun Q hQ => ?_)
  unfold m_X8_count at hm
  refine lv_iconst (v := (0 : Int32)) hx hb dX8_count_0 (by decide) ?_
  refine lv_istore_n (lv' := [(1, .int (0 : Int32)), (0, .ref a_p0)]) hx hb dX8_count_1 rfl hl (by decide) rfl (fun ls hl => ?_)
  refine lv_aload_n hx hb dX8_count_2 rfl (lv_at hl 1 rfl) ?_
  refine lv_astore_n (lv' := [(2, .ref a_p0), (1, .int (0 : Int32)), (0, .ref a_p0)]) hx hb dX8_count_3 rfl hl (by decide) rfl (fun ls hl => ?_)
  refine lv_aload_n hx hb dX8_count_4 rfl (lv_at hl 0 rfl) ?_
  refine va_alen (v := (Int32.ofNat n_p0)) hx hb hK hP 0 0 rfl rfl rfl dX8_count_5 ?_
  refine lv_topi (fun x1 ex1 => ?_)
  replace hm := nm_t ex1 hm
  refine lv_istore_n (lv' := [(3, .int x1), (2, .ref a_p0), (1, .int (0 : Int32)), (0, .ref a_p0)]) hx hb dX8_count_6 rfl hl (by decide) rfl (fun ls hl => ?_)
  refine lv_iconst (v := (0 : Int32)) hx hb dX8_count_7 (by decide) ?_
  refine lv_istore (lv' := [(4, .int (0 : Int32)), (3, .int x1), (2, .ref a_p0), (1, .int (0 : Int32)), (0, .ref a_p0)]) hx hb dX8_count_8 hl (by decide) rfl (fun ls hl => ?_)
  have lp10 : ∀ (n10 : Nat) (x2 : Int32) (x3 : Int32) (k10 : Int32 → Option (Int32)) (H : Heap) (locs : List Loc) (ls : Array Slot), L_X8_count_10 v_p0 n_p0 x1 n10 x2 x3 k10 = some o → (∀ (x4 : Int32) (H : Heap) (locs : List Loc) (ls : Array Slot), k10 x4 = some o → va_P (dC, dI) vwCl [aI cI a_p0 n_p0 v_p0] H → va_S A s.heap H locs → lv_has ls 6 [(1, .int x4)] → W p l e (headSpec wsX8_count { frames := 1, cells := 0, slots := 0, locals := 20 }).room s m [.ref a_p0].toArray below meth c H locs 0 0 Q (F0 m 36 ls [])) → va_P (dC, dI) vwCl [aI cI a_p0 n_p0 v_p0] H → va_S A s.heap H locs → lv_has ls 6 [(1, .int x2), (2, .ref a_p0), (3, .int x1), (4, .int x3)] → W p l e (headSpec wsX8_count { frames := 1, cells := 0, slots := 0, locals := 20 }).room s m [.ref a_p0].toArray below meth c H locs 0 0 Q (F0 m 10 ls []) := by
    intro n10
    induction n10 with
    | zero =>
      intro x2 x3 k10 H locs ls hm
      cases (show (none : Option (Int32)) = some o from hm)
    | succ n10 ih10 =>
      intro x2 x3 k10 H locs ls hm hk10 hP hS hl
      rw [L_X8_count_10.eq_2] at hm
      refine lv_iload hx hb dX8_count_10 (lv_at hl 3 rfl) ?_
      refine lv_iload_n hx hb dX8_count_12 rfl (lv_at hl 2 rfl) ?_
      refine lv_icmp_ge (tgt := 36) hx hb dX8_count_13 (by decide) (fun c5 => ?_) (fun c5 => ?_)
      · replace hm := ite_t c5 hm
        exact hk10 x2 _ _ _ hm hP hS (lv_sub hl [0] rfl)
      · replace hm := ite_f c5 hm
        refine lv_aload_n hx hb dX8_count_16 rfl (lv_at hl 1 rfl) ?_
        refine lv_iload hx hb dX8_count_17 (lv_at hl 3 rfl) ?_
        obtain ⟨h6, hm⟩ := gd_s hm
        refine va_iald hx hb hK hP 0 0 rfl rfl (inB_s h6) dX8_count_19 ?_
        refine lv_topi (fun x7 ex7 => ?_)
        replace hm := nm_t ex7 hm
        refine lv_istore (lv' := [(5, .int x7), (1, .int x2), (2, .ref a_p0), (3, .int x1), (4, .int x3)]) hx hb dX8_count_20 hl (by decide) rfl (fun ls hl => ?_)
        refine lv_iload_n hx hb dX8_count_22 rfl (lv_at hl 1 rfl) ?_
        refine lv_iload hx hb dX8_count_23 (lv_at hl 0 rfl) ?_
        obtain ⟨r8, ho9, hm⟩ := bd1_s hm
        refine kb_calli (Rv := r8) (va_runS (As := [.int x7]) (rest := [.int x2]) ⟨hx, hb, hml, hown, hts⟩ (c_J6_bitCount_0f7a4 l dC dI cI cJ cZ cQ t H.size x7 (r8) ho9) (va_cwS 1 hts gX8_count_J6_bitCount_0f7a4 rfl rfl rfl (by decide +kernel) ⟨(Nat.le_of_ble_eq_true rfl), (Nat.le_of_ble_eq_true rfl)⟩) (kb_pre hK hG hP (kb_D hD rfl) hS hA [] rfl (by decide)) rfl rfl hl.1 rfl (lv_room (Nat.le_of_ble_eq_true rfl)) dX8_count_25 ⟨Nat.zero_le _, Nat.zero_le _⟩) hP (kb_D hD rfl) hS hA [] rfl [(false, 0)] (w2 := [aI cI a_p0 n_p0 v_p0]) rfl (by decide) (fun H locs hP hS => ?_)
        refine lv_iadd hx hb dX8_count_28 ?_
        refine lv_topi (fun x10 ex10 => ?_)
        replace hm := nm_t ex10 hm
        refine lv_istore_n (lv' := [(1, .int x10), (5, .int x7), (2, .ref a_p0), (3, .int x1), (4, .int x3)]) hx hb dX8_count_29 rfl hl (by decide) rfl (fun ls hl => ?_)
        obtain ⟨x11, ex11⟩ : ∃ y : Int32, y = x3 + (1 : Int32) := ⟨_, rfl⟩
        replace hm := nm_t ex11 hm
        refine lv_iinc (v := x11) (lv' := [(4, .int x11), (1, .int x10), (5, .int x7), (2, .ref a_p0), (3, .int x1)]) hx hb dX8_count_30 hl (k := 4) rfl (by rw [ex11]; rfl) (by decide) rfl (fun ls hl => ?_)
        refine lv_goto (tgt := 10) hx hb dX8_count_33 (by decide) ?_
        exact ih10 x10 x11 k10 _ _ _ hm hk10 hP hS (lv_sub hl [1, 3, 4, 0] rfl)
  refine lp10 1024 (0 : Int32) (0 : Int32) _ _ _ _ hm (fun x4 H locs ls hm hP hS hl => ?_) hP hS (lv_sub hl [3, 2, 1, 0] rfl)
  refine lv_iload_n hx hb dX8_count_36 rfl (lv_at hl 0 rfl) ?_
  obtain rfl := Option.some.inj hm
  subst hQ
  exact W.iret hx hb hr (fun t ht hW => ⟨⟨_, (), rfl, rfl, kb_h hP ht⟩, hS.F ht⟩) hS.2.2 dX8_count_37
set_option maxHeartbeats 4000000 in
set_option maxRecDepth 100000 in
theorem c_X9_about (l : Launch) (dC : Nat → ClassId) (dI : Nat → Nat → Nat) (cI cJ cZ cQ : ClassId) (t sz : Nat) (a_th : Nat) (a_now : Nat) (a_now_known : Nat) (a_theQuestion : Nat) (a_theQuestion_letters : Nat) (a_theText : Nat) (a_theTold : Nat) (a_theActs : Nat) (a_theCastle : Nat) (q_foresight : Value) (q_keptMoments : Value) (q_isKept : Value) (q_marchWorlds : Value) (q_theQuestion_stack : Value) (q_theQuestion_letters_bytes : Value) (q_theText_bytes : Value) (q_theTold_simples : Value) (q_theTold_weekdays : Value) (q_theTold_answers : Value) (q_theActs_moments : Value) (q_theActs_seeds : Value) (v_theSeed : Int64) (v_now_date : Int32) (v_now_trueDay : Int32) (v_now_wasAsked : Int32) (v_now_clothState : Int32) (v_now_cracks : Int32) (v_now_known : (Nat → Int32)) (v_theQuestion_letters_length : Int32) (v_theText_length : Int32) (v_theTold_count : Int32) (v_theActs_next : Int32) (v_theActs_count : Int32) (v_theCastle_facts : Int32) (v_theCastle_so : Int32) (v_theCastle_common : Int32) (v_theCastle_cases : Int32) (v_theCastle_firstTrueDay : Int32) (p_1 : Int32) (o : Int32) (hm : m_X9_about p_1 v_now_date v_now_trueDay v_now_wasAsked v_now_clothState v_now_cracks v_now_known v_theQuestion_letters_length v_theText_length v_theTold_count v_theActs_count v_theCastle_facts = some o) : Met l yX9_about wsX9_about { frames := 2, cells := 0, slots := 0, locals := 45 } (va_Pc [.ref a_th, .int p_1] (cP (dC, dI) (kT cI cJ cZ cQ) t sz [oX9 a_th (.ref a_theText) (.ref a_theQuestion) (.ref a_theCastle) (.ref a_now) (.ref a_theActs) (.ref a_theTold) q_foresight q_keptMoments q_isKept q_marchWorlds (.long v_theSeed), oX4 a_now (.int v_now_date) (.int v_now_trueDay) (.int v_now_wasAsked) (.int v_now_clothState) (.int v_now_cracks) (.ref a_now_known), aI cI a_now_known 7 v_now_known, oX5 a_theQuestion (.ref a_theQuestion_letters) q_theQuestion_stack, oX3 a_theQuestion_letters q_theQuestion_letters_bytes (.int v_theQuestion_letters_length), oX3 a_theText q_theText_bytes (.int v_theText_length), oX7 a_theTold q_theTold_simples q_theTold_weekdays q_theTold_answers (.int v_theTold_count), oX0 a_theActs q_theActs_moments q_theActs_seeds (.int v_theActs_next) (.int v_theActs_count), oX1 a_theCastle (.int v_theCastle_facts) (.int v_theCastle_so) (.int v_theCastle_common) (.int v_theCastle_cases) (.int v_theCastle_firstTrueDay)])) (cQi (dC, dI) (va_A [oX9 a_th (.ref a_theText) (.ref a_theQuestion) (.ref a_theCastle) (.ref a_now) (.ref a_theActs) (.ref a_theTold) q_foresight q_keptMoments q_isKept q_marchWorlds (.long v_theSeed), oX4 a_now (.int v_now_date) (.int v_now_trueDay) (.int v_now_wasAsked) (.int v_now_clothState) (.int v_now_cracks) (.ref a_now_known), aI cI a_now_known 7 v_now_known, oX5 a_theQuestion (.ref a_theQuestion_letters) q_theQuestion_stack, oX3 a_theQuestion_letters q_theQuestion_letters_bytes (.int v_theQuestion_letters_length), oX3 a_theText q_theText_bytes (.int v_theText_length), oX7 a_theTold q_theTold_simples q_theTold_weekdays q_theTold_answers (.int v_theTold_count), oX0 a_theActs q_theActs_moments q_theActs_seeds (.int v_theActs_next) (.int v_theActs_count), oX1 a_theCastle (.int v_theCastle_facts) (.int v_theCastle_so) (.int v_theCastle_common) (.int v_theCastle_cases) (.int v_theCastle_firstTrueDay)] sz) o [oX9 a_th (.ref a_theText) (.ref a_theQuestion) (.ref a_theCastle) (.ref a_now) (.ref a_theActs) (.ref a_theTold) q_foresight q_keptMoments q_isKept q_marchWorlds (.long v_theSeed), oX4 a_now (.int v_now_date) (.int v_now_trueDay) (.int v_now_wasAsked) (.int v_now_clothState) (.int v_now_cracks) (.ref a_now_known), aI cI a_now_known 7 v_now_known, oX5 a_theQuestion (.ref a_theQuestion_letters) q_theQuestion_stack, oX3 a_theQuestion_letters q_theQuestion_letters_bytes (.int v_theQuestion_letters_length), oX3 a_theText q_theText_bytes (.int v_theText_length), oX7 a_theTold q_theTold_simples q_theTold_weekdays q_theTold_answers (.int v_theTold_count), oX0 a_theActs q_theActs_moments q_theActs_seeds (.int v_theActs_next) (.int v_theActs_count), oX1 a_theCastle (.int v_theCastle_facts) (.int v_theCastle_so) (.int v_theCastle_common) (.int v_theCastle_cases) (.int v_theCastle_firstTrueDay)]) 0 0 (va_A [oX9 a_th (.ref a_theText) (.ref a_theQuestion) (.ref a_theCastle) (.ref a_now) (.ref a_theActs) (.ref a_theTold) q_foresight q_keptMoments q_isKept q_marchWorlds (.long v_theSeed), oX4 a_now (.int v_now_date) (.int v_now_trueDay) (.int v_now_wasAsked) (.int v_now_clothState) (.int v_now_cracks) (.ref a_now_known), aI cI a_now_known 7 v_now_known, oX5 a_theQuestion (.ref a_theQuestion_letters) q_theQuestion_stack, oX3 a_theQuestion_letters q_theQuestion_letters_bytes (.int v_theQuestion_letters_length), oX3 a_theText q_theText_bytes (.int v_theText_length), oX7 a_theTold q_theTold_simples q_theTold_weekdays q_theTold_answers (.int v_theTold_count), oX0 a_theActs q_theActs_moments q_theActs_seeds (.int v_theActs_next) (.int v_theActs_count), oX1 a_theCastle (.int v_theCastle_facts) (.int v_theCastle_so) (.int v_theCastle_common) (.int v_theCastle_cases) (.int v_theCastle_firstTrueDay)] sz) := by
  refine Met.ofW (cc := cX9_about) (maxL := 2) (ret := (some .int)) (by decide) rfl ?_
  intro p e s m args below meth c s₁ B hml hv
  obtain ⟨rfl, hsz, hP, hK, hD0, hG⟩ := hv
  have hx := B.exec
  have hb := B.bytes
  have hr := B.returns
  have hts := atoms_spec (ws := wsX9_about) B.pre
  have hown : s.vm.findClass RX9 = some m.cls := findClass_of_methodNamed B.named
  have hlocks := B.notSynchronized
  subst hsz
  have hD := hD0.self (sz := s.heap.size)
  generalize hAe : va_A [oX9 a_th (.ref a_theText) (.ref a_theQuestion) (.ref a_theCastle) (.ref a_now) (.ref a_theActs) (.ref a_theTold) q_foresight q_keptMoments q_isKept q_marchWorlds (.long v_theSeed), oX4 a_now (.int v_now_date) (.int v_now_trueDay) (.int v_now_wasAsked) (.int v_now_clothState) (.int v_now_cracks) (.ref a_now_known), aI cI a_now_known 7 v_now_known, oX5 a_theQuestion (.ref a_theQuestion_letters) q_theQuestion_stack, oX3 a_theQuestion_letters q_theQuestion_letters_bytes (.int v_theQuestion_letters_length), oX3 a_theText q_theText_bytes (.int v_theText_length), oX7 a_theTold q_theTold_simples q_theTold_weekdays q_theTold_answers (.int v_theTold_count), oX0 a_theActs q_theActs_moments q_theActs_seeds (.int v_theActs_next) (.int v_theActs_count), oX1 a_theCastle (.int v_theCastle_facts) (.int v_theCastle_so) (.int v_theCastle_common) (.int v_theCastle_cases) (.int v_theCastle_firstTrueDay)] s.heap.size = A at hD hG ⊢
  have hA : ∀ q : Nat, s.heap.size ≤ q → A q := fun q h => by rw [← hAe]; exact Or.inr h
  have hS : va_S A s.heap s.heap [] := va_S.rf
  have hl := lv_entry ([.ref a_th, .int p_1]) (n := 2) (Nat.le_of_ble_eq_true rfl)
  rw [lg_entry_eq]
  generalize (lg_sl ([.ref a_th, .int p_1]) ++ List.replicate (2 - (lg_sl ([.ref a_th, .int p_1])).length) Slot.unset).toArray = ls at hl ⊢
  have hl : lv_has ls 2 [(0, .ref a_th), (1, .int p_1)] := hl
  have iX9 : ∀ w ∈ wsX90, w ∈ wsX9_about := fun _ h => List.mem_cons_of_mem _ (List.mem_append_left _ (List.mem_append_left _ (List.mem_append_left _ (List.mem_append_left _ (List.mem_append_left _ (List.mem_append_left _ (List.mem_append_right _ h)))))))
  have iX1 : ∀ w ∈ wsX10, w ∈ wsX9_about := fun _ h => List.mem_cons_of_mem _ (List.mem_append_left _ (List.mem_append_left _ (List.mem_append_left _ (List.mem_append_left _ (List.mem_append_left _ (List.mem_append_right _ h))))))
  have iX4 : ∀ w ∈ wsX40, w ∈ wsX9_about := fun _ h => List.mem_cons_of_mem _ (List.mem_append_left _ (List.mem_append_left _ (List.mem_append_left _ (List.mem_append_left _ (List.mem_append_right _ h)))))
  have iX0 : ∀ w ∈ wsX00, w ∈ wsX9_about := fun _ h => List.mem_cons_of_mem _ (List.mem_append_left _ (List.mem_append_left _ (List.mem_append_left _ (List.mem_append_right _ h))))
  have iX7 : ∀ w ∈ wsX70, w ∈ wsX9_about := fun _ h => List.mem_cons_of_mem _ (List.mem_append_left _ (List.mem_append_left _ (List.mem_append_right _ h)))
  have iX3 : ∀ w ∈ wsX30, w ∈ wsX9_about := fun _ h => List.mem_cons_of_mem _ (List.mem_append_left _ (List.mem_append_right _ h))
  have iX5 : ∀ w ∈ wsX50, w ∈ wsX9_about := fun _ h => List.mem_cons_of_mem _ (List.mem_append_right _ h)
  have f28 := hts (.fieldLink RX9 28 "TrueOnceWeek" "theCastle" "LTrueOnceWeek$Castle;") (by decide +kernel)
  have f101 := va_Nw.use (A := [.ref a_th, .int p_1].toArray) (w := .fieldLinkNest RX9 101 "TrueOnceWeek$Castle" "facts" "I" "TrueOnceWeek") rfl (hG.1 (RX9, 101, "TrueOnceWeek$Castle", "facts", "I") (by decide +kernel))
  have f35 := hts (.fieldLink RX9 35 "TrueOnceWeek" "now" "LTrueOnceWeek$Moment;") (by decide +kernel)
  have f110 := va_Nw.use (A := [.ref a_th, .int p_1].toArray) (w := .fieldLinkNest RX9 110 "TrueOnceWeek$Moment" "date" "I" "TrueOnceWeek") rfl (hG.1 (RX9, 110, "TrueOnceWeek$Moment", "date", "I") (by decide +kernel))
  have f113 := va_Nw.use (A := [.ref a_th, .int p_1].toArray) (w := .fieldLinkNest RX9 113 "TrueOnceWeek$Moment" "known" "[I" "TrueOnceWeek") rfl (hG.1 (RX9, 113, "TrueOnceWeek$Moment", "known", "[I") (by decide +kernel))
  have f122 := va_Nw.use (A := [.ref a_th, .int p_1].toArray) (w := .fieldLinkNest RX9 122 "TrueOnceWeek$Moment" "wasAsked" "Z" "TrueOnceWeek") rfl (hG.1 (RX9, 122, "TrueOnceWeek$Moment", "wasAsked", "Z") (by decide +kernel))
  have f126 := va_Nw.use (A := [.ref a_th, .int p_1].toArray) (w := .fieldLinkNest RX9 126 "TrueOnceWeek$Moment" "clothState" "I" "TrueOnceWeek") rfl (hG.1 (RX9, 126, "TrueOnceWeek$Moment", "clothState", "I") (by decide +kernel))
  have f129 := va_Nw.use (A := [.ref a_th, .int p_1].toArray) (w := .fieldLinkNest RX9 129 "TrueOnceWeek$Moment" "cracks" "I" "TrueOnceWeek") rfl (hG.1 (RX9, 129, "TrueOnceWeek$Moment", "cracks", "I") (by decide +kernel))
  have f42 := hts (.fieldLink RX9 42 "TrueOnceWeek" "theActs" "LTrueOnceWeek$Acts;") (by decide +kernel)
  have f132 := va_Nw.use (A := [.ref a_th, .int p_1].toArray) (w := .fieldLinkNest RX9 132 "TrueOnceWeek$Acts" "count" "I" "TrueOnceWeek") rfl (hG.1 (RX9, 132, "TrueOnceWeek$Acts", "count", "I") (by decide +kernel))
  have f49 := hts (.fieldLink RX9 49 "TrueOnceWeek" "theTold" "LTrueOnceWeek$Told;") (by decide +kernel)
  have f134 := va_Nw.use (A := [.ref a_th, .int p_1].toArray) (w := .fieldLinkNest RX9 134 "TrueOnceWeek$Told" "count" "I" "TrueOnceWeek") rfl (hG.1 (RX9, 134, "TrueOnceWeek$Told", "count", "I") (by decide +kernel))
  have f14 := hts (.fieldLink RX9 14 "TrueOnceWeek" "theText" "LTrueOnceWeek$Letters;") (by decide +kernel)
  have f135 := va_Nw.use (A := [.ref a_th, .int p_1].toArray) (w := .fieldLinkNest RX9 135 "TrueOnceWeek$Letters" "length" "I" "TrueOnceWeek") rfl (hG.1 (RX9, 135, "TrueOnceWeek$Letters", "length", "I") (by decide +kernel))
  have f21 := hts (.fieldLink RX9 21 "TrueOnceWeek" "theQuestion" "LTrueOnceWeek$Question;") (by decide +kernel)
  have f104 := va_Nw.use (A := [.ref a_th, .int p_1].toArray) (w := .fieldLinkNest RX9 104 "TrueOnceWeek$Question" "letters" "LTrueOnceWeek$Letters;" "TrueOnceWeek") rfl (hG.1 (RX9, 104, "TrueOnceWeek$Question", "letters", "LTrueOnceWeek$Letters;") (by decide +kernel))
  have f141 := va_Nw.use (A := [.ref a_th, .int p_1].toArray) (w := .fieldLinkNest RX9 141 "TrueOnceWeek$Moment" "trueDay" "I" "TrueOnceWeek") rfl (hG.1 (RX9, 141, "TrueOnceWeek$Moment", "trueDay", "I") (by decide +kernel))
  refine kb_gen (fun Q hQ => ?_)
  unfold m_X9_about at hm
  refine lv_iload_n hx hb dX9_about_0 rfl (lv_at hl 1 rfl) ?_
  rcases Decidable.em (p_1 = (0 : Int32)) with c1 | c1
  · replace hm := ite_t c1 hm
    refine lv_tableIn (tgt := 64) hx hb dX9_about_1 (by rw [c1]; decide) (by rw [c1]; decide) (by rw [c1]; rfl) (by decide) ?_
    refine lv_aload_n hx hb dX9_about_64 rfl (lv_at hl 0 rfl) ?_
    refine va_get (D := (dC, dI)) (ci := 7) (v := .ref a_theCastle) (C := RX9) (T := TX9) (N := 11) hx hb hts iX9 hown hK hP 0 rfl rfl 2 (by decide) f28 (fun _ h9 => h9) rfl dX9_about_65 ?_
    refine va_getN (D := (dC, dI)) (ci := 1) (v := .int v_theCastle_facts) (C := RX1) (T := TX1) (N := 5) hx hb hts iX1 hown hK hP 8 rfl rfl 0 (by decide) f101 (fun _ h9 => h9) rfl dX9_about_68 ?_
    obtain rfl := Option.some.inj hm
    subst hQ
    exact W.iret hx hb hr (fun t ht hW => ⟨⟨_, (), rfl, rfl, kb_h hP ht⟩, hS.F ht⟩) hS.2.2 dX9_about_71
  replace hm := ite_f c1 hm
  rcases Decidable.em (p_1 = (1 : Int32)) with c2 | c2
  · replace hm := ite_t c2 hm
    refine lv_tableIn (tgt := 72) hx hb dX9_about_1 (by rw [c2]; decide) (by rw [c2]; decide) (by rw [c2]; rfl) (by decide) ?_
    refine lv_aload_n hx hb dX9_about_72 rfl (lv_at hl 0 rfl) ?_
    refine va_get (D := (dC, dI)) (ci := 7) (v := .ref a_now) (C := RX9) (T := TX9) (N := 11) hx hb hts iX9 hown hK hP 0 rfl rfl 3 (by decide) f35 (fun _ h9 => h9) rfl dX9_about_73 ?_
    refine va_getN (D := (dC, dI)) (ci := 4) (v := .int v_now_date) (C := RX4) (T := TX4) (N := 6) hx hb hts iX4 hown hK hP 1 rfl rfl 0 (by decide) f110 (fun _ h9 => h9) rfl dX9_about_76 ?_
    obtain rfl := Option.some.inj hm
    subst hQ
    exact W.iret hx hb hr (fun t ht hW => ⟨⟨_, (), rfl, rfl, kb_h hP ht⟩, hS.F ht⟩) hS.2.2 dX9_about_79
  replace hm := ite_f c2 hm
  rcases Decidable.em (p_1 = (2 : Int32)) with c3 | c3
  · replace hm := ite_t c3 hm
    refine lv_tableIn (tgt := 80) hx hb dX9_about_1 (by rw [c3]; decide) (by rw [c3]; decide) (by rw [c3]; rfl) (by decide) ?_
    refine lv_aload_n hx hb dX9_about_80 rfl (lv_at hl 0 rfl) ?_
    refine va_get (D := (dC, dI)) (ci := 7) (v := .ref a_now) (C := RX9) (T := TX9) (N := 11) hx hb hts iX9 hown hK hP 0 rfl rfl 3 (by decide) f35 (fun _ h9 => h9) rfl dX9_about_81 ?_
    refine va_getN (D := (dC, dI)) (ci := 4) (v := .ref a_now_known) (C := RX4) (T := TX4) (N := 6) hx hb hts iX4 hown hK hP 1 rfl rfl 5 (by decide) f113 (fun _ h9 => h9) rfl dX9_about_84 ?_
    obtain ⟨r4, ho5, hm⟩ := bd1_s hm
    refine kb_calli (Rv := r4) (va_runS (As := [.ref a_now_known]) (rest := []) ⟨hx, hb, hml, hown, hts⟩ (c_X8_count l dC dI cI cJ cZ cQ t s.heap.size a_now_known 7 v_now_known (r4) ho5) (va_cwS 1 hts gX9_about_X8_count rfl rfl rfl (by decide +kernel) ⟨(Nat.le_of_ble_eq_true rfl), (Nat.le_of_ble_eq_true rfl)⟩) (kb_pre hK hG hP (kb_D hD rfl) hS hA [2] rfl (by decide)) rfl rfl hl.1 rfl (lv_room (Nat.le_of_ble_eq_true rfl)) dX9_about_87 ⟨Nat.zero_le _, Nat.zero_le _⟩) hP (kb_D hD rfl) hS hA [2] rfl [(false, 0), (false, 1), (true, 0), (false, 3), (false, 4), (false, 5), (false, 6), (false, 7), (false, 8)] (w2 := [oX9 a_th (.ref a_theText) (.ref a_theQuestion) (.ref a_theCastle) (.ref a_now) (.ref a_theActs) (.ref a_theTold) q_foresight q_keptMoments q_isKept q_marchWorlds (.long v_theSeed), oX4 a_now (.int v_now_date) (.int v_now_trueDay) (.int v_now_wasAsked) (.int v_now_clothState) (.int v_now_cracks) (.ref a_now_known), aI cI a_now_known 7 v_now_known, oX5 a_theQuestion (.ref a_theQuestion_letters) q_theQuestion_stack, oX3 a_theQuestion_letters q_theQuestion_letters_bytes (.int v_theQuestion_letters_length), oX3 a_theText q_theText_bytes (.int v_theText_length), oX7 a_theTold q_theTold_simples q_theTold_weekdays q_theTold_answers (.int v_theTold_count), oX0 a_theActs q_theActs_moments q_theActs_seeds (.int v_theActs_next) (.int v_theActs_count), oX1 a_theCastle (.int v_theCastle_facts) (.int v_theCastle_so) (.int v_theCastle_common) (.int v_theCastle_cases) (.int v_theCastle_firstTrueDay)]) rfl (by decide) (fun H locs hP hS => ?_)
    obtain rfl := Option.some.inj hm
    subst hQ
    exact W.iret hx hb hr (fun t ht hW => ⟨⟨_, (), rfl, rfl, kb_h hP ht⟩, hS.F ht⟩) hS.2.2 dX9_about_90
  replace hm := ite_f c3 hm
  rcases Decidable.em (p_1 = (3 : Int32)) with c6 | c6
  · replace hm := ite_t c6 hm
    refine lv_tableIn (tgt := 91) hx hb dX9_about_1 (by rw [c6]; decide) (by rw [c6]; decide) (by rw [c6]; rfl) (by decide) ?_
    refine lv_aload_n hx hb dX9_about_91 rfl (lv_at hl 0 rfl) ?_
    refine va_get (D := (dC, dI)) (ci := 7) (v := .ref a_now) (C := RX9) (T := TX9) (N := 11) hx hb hts iX9 hown hK hP 0 rfl rfl 3 (by decide) f35 (fun _ h9 => h9) rfl dX9_about_92 ?_
    refine va_getN (D := (dC, dI)) (ci := 4) (v := .int v_now_wasAsked) (C := RX4) (T := TX4) (N := 6) hx hb hts iX4 hown hK hP 1 rfl rfl 2 (by decide) f122 (fun _ h9 => h9) rfl dX9_about_95 ?_
    refine lv_if_eq (tgt := 105) hx hb dX9_about_98 (by decide) (fun c7 => ?_) (fun c7 => ?_)
    · replace hm := ite_t c7 hm
      refine lv_iconst (v := (0 : Int32)) hx hb dX9_about_105 (by decide) ?_
      obtain rfl := Option.some.inj hm
      subst hQ
      exact W.iret hx hb hr (fun t ht hW => ⟨⟨_, (), rfl, rfl, kb_h hP ht⟩, hS.F ht⟩) hS.2.2 dX9_about_106
    · replace hm := ite_f c7 hm
      refine lv_iconst (v := (1 : Int32)) hx hb dX9_about_101 (by decide) ?_
      refine lv_goto (tgt := 106) hx hb dX9_about_102 (by decide) ?_
      obtain rfl := Option.some.inj hm
      subst hQ
      exact W.iret hx hb hr (fun t ht hW => ⟨⟨_, (), rfl, rfl, kb_h hP ht⟩, hS.F ht⟩) hS.2.2 dX9_about_106
  replace hm := ite_f c6 hm
  rcases Decidable.em (p_1 = (4 : Int32)) with c8 | c8
  · replace hm := ite_t c8 hm
    refine lv_tableIn (tgt := 107) hx hb dX9_about_1 (by rw [c8]; decide) (by rw [c8]; decide) (by rw [c8]; rfl) (by decide) ?_
    refine lv_aload_n hx hb dX9_about_107 rfl (lv_at hl 0 rfl) ?_
    refine va_get (D := (dC, dI)) (ci := 7) (v := .ref a_now) (C := RX9) (T := TX9) (N := 11) hx hb hts iX9 hown hK hP 0 rfl rfl 3 (by decide) f35 (fun _ h9 => h9) rfl dX9_about_108 ?_
    refine va_getN (D := (dC, dI)) (ci := 4) (v := .int v_now_clothState) (C := RX4) (T := TX4) (N := 6) hx hb hts iX4 hown hK hP 1 rfl rfl 3 (by decide) f126 (fun _ h9 => h9) rfl dX9_about_111 ?_
    obtain rfl := Option.some.inj hm
    subst hQ
    exact W.iret hx hb hr (fun t ht hW => ⟨⟨_, (), rfl, rfl, kb_h hP ht⟩, hS.F ht⟩) hS.2.2 dX9_about_114
  replace hm := ite_f c8 hm
  rcases Decidable.em (p_1 = (5 : Int32)) with c9 | c9
  · replace hm := ite_t c9 hm
    refine lv_tableIn (tgt := 115) hx hb dX9_about_1 (by rw [c9]; decide) (by rw [c9]; decide) (by rw [c9]; rfl) (by decide) ?_
    refine lv_aload_n hx hb dX9_about_115 rfl (lv_at hl 0 rfl) ?_
    refine va_get (D := (dC, dI)) (ci := 7) (v := .ref a_now) (C := RX9) (T := TX9) (N := 11) hx hb hts iX9 hown hK hP 0 rfl rfl 3 (by decide) f35 (fun _ h9 => h9) rfl dX9_about_116 ?_
    refine va_getN (D := (dC, dI)) (ci := 4) (v := .int v_now_cracks) (C := RX4) (T := TX4) (N := 6) hx hb hts iX4 hown hK hP 1 rfl rfl 4 (by decide) f129 (fun _ h9 => h9) rfl dX9_about_119 ?_
    obtain rfl := Option.some.inj hm
    subst hQ
    exact W.iret hx hb hr (fun t ht hW => ⟨⟨_, (), rfl, rfl, kb_h hP ht⟩, hS.F ht⟩) hS.2.2 dX9_about_122
  replace hm := ite_f c9 hm
  rcases Decidable.em (p_1 = (6 : Int32)) with c10 | c10
  · replace hm := ite_t c10 hm
    refine lv_tableIn (tgt := 123) hx hb dX9_about_1 (by rw [c10]; decide) (by rw [c10]; decide) (by rw [c10]; rfl) (by decide) ?_
    refine lv_aload_n hx hb dX9_about_123 rfl (lv_at hl 0 rfl) ?_
    refine va_get (D := (dC, dI)) (ci := 7) (v := .ref a_theActs) (C := RX9) (T := TX9) (N := 11) hx hb hts iX9 hown hK hP 0 rfl rfl 4 (by decide) f42 (fun _ h9 => h9) rfl dX9_about_124 ?_
    refine va_getN (D := (dC, dI)) (ci := 0) (v := .int v_theActs_count) (C := RX0) (T := TX0) (N := 4) hx hb hts iX0 hown hK hP 7 rfl rfl 3 (by decide) f132 (fun _ h9 => h9) rfl dX9_about_127 ?_
    obtain rfl := Option.some.inj hm
    subst hQ
    exact W.iret hx hb hr (fun t ht hW => ⟨⟨_, (), rfl, rfl, kb_h hP ht⟩, hS.F ht⟩) hS.2.2 dX9_about_130
  replace hm := ite_f c10 hm
  rcases Decidable.em (p_1 = (7 : Int32)) with c11 | c11
  · replace hm := ite_t c11 hm
    refine lv_tableIn (tgt := 131) hx hb dX9_about_1 (by rw [c11]; decide) (by rw [c11]; decide) (by rw [c11]; rfl) (by decide) ?_
    refine lv_aload_n hx hb dX9_about_131 rfl (lv_at hl 0 rfl) ?_
    refine va_get (D := (dC, dI)) (ci := 7) (v := .ref a_theTold) (C := RX9) (T := TX9) (N := 11) hx hb hts iX9 hown hK hP 0 rfl rfl 5 (by decide) f49 (fun _ h9 => h9) rfl dX9_about_132 ?_
    refine va_getN (D := (dC, dI)) (ci := 6) (v := .int v_theTold_count) (C := RX7) (T := TX7) (N := 4) hx hb hts iX7 hown hK hP 6 rfl rfl 3 (by decide) f134 (fun _ h9 => h9) rfl dX9_about_135 ?_
    obtain rfl := Option.some.inj hm
    subst hQ
    exact W.iret hx hb hr (fun t ht hW => ⟨⟨_, (), rfl, rfl, kb_h hP ht⟩, hS.F ht⟩) hS.2.2 dX9_about_138
  replace hm := ite_f c11 hm
  rcases Decidable.em (p_1 = (8 : Int32)) with c12 | c12
  · replace hm := ite_t c12 hm
    refine lv_tableIn (tgt := 139) hx hb dX9_about_1 (by rw [c12]; decide) (by rw [c12]; decide) (by rw [c12]; rfl) (by decide) ?_
    refine lv_aload_n hx hb dX9_about_139 rfl (lv_at hl 0 rfl) ?_
    refine va_get (D := (dC, dI)) (ci := 7) (v := .ref a_theText) (C := RX9) (T := TX9) (N := 11) hx hb hts iX9 hown hK hP 0 rfl rfl 0 (by decide) f14 (fun _ h9 => h9) rfl dX9_about_140 ?_
    refine va_getN (D := (dC, dI)) (ci := 3) (v := .int v_theText_length) (C := RX3) (T := TX3) (N := 2) hx hb hts iX3 hown hK hP 5 rfl rfl 1 (by decide) f135 (fun _ h9 => h9) rfl dX9_about_143 ?_
    obtain rfl := Option.some.inj hm
    subst hQ
    exact W.iret hx hb hr (fun t ht hW => ⟨⟨_, (), rfl, rfl, kb_h hP ht⟩, hS.F ht⟩) hS.2.2 dX9_about_146
  replace hm := ite_f c12 hm
  rcases Decidable.em (p_1 = (9 : Int32)) with c13 | c13
  · replace hm := ite_t c13 hm
    refine lv_tableIn (tgt := 147) hx hb dX9_about_1 (by rw [c13]; decide) (by rw [c13]; decide) (by rw [c13]; rfl) (by decide) ?_
    refine lv_aload_n hx hb dX9_about_147 rfl (lv_at hl 0 rfl) ?_
    refine va_get (D := (dC, dI)) (ci := 7) (v := .ref a_theQuestion) (C := RX9) (T := TX9) (N := 11) hx hb hts iX9 hown hK hP 0 rfl rfl 1 (by decide) f21 (fun _ h9 => h9) rfl dX9_about_148 ?_
    refine va_getN (D := (dC, dI)) (ci := 5) (v := .ref a_theQuestion_letters) (C := RX5) (T := TX5) (N := 2) hx hb hts iX5 hown hK hP 3 rfl rfl 0 (by decide) f104 (fun _ h9 => h9) rfl dX9_about_151 ?_
    refine va_getN (D := (dC, dI)) (ci := 3) (v := .int v_theQuestion_letters_length) (C := RX3) (T := TX3) (N := 2) hx hb hts iX3 hown hK hP 4 rfl rfl 1 (by decide) f135 (fun _ h9 => h9) rfl dX9_about_154 ?_
    obtain rfl := Option.some.inj hm
    subst hQ
    exact W.iret hx hb hr (fun t ht hW => ⟨⟨_, (), rfl, rfl, kb_h hP ht⟩, hS.F ht⟩) hS.2.2 dX9_about_157
  replace hm := ite_f c13 hm
  rcases Decidable.em (p_1 = (10 : Int32)) with c14 | c14
  · replace hm := ite_t c14 hm
    refine lv_tableIn (tgt := 158) hx hb dX9_about_1 (by rw [c14]; decide) (by rw [c14]; decide) (by rw [c14]; rfl) (by decide) ?_
    refine lv_aload_n hx hb dX9_about_158 rfl (lv_at hl 0 rfl) ?_
    refine va_get (D := (dC, dI)) (ci := 7) (v := .ref a_now) (C := RX9) (T := TX9) (N := 11) hx hb hts iX9 hown hK hP 0 rfl rfl 3 (by decide) f35 (fun _ h9 => h9) rfl dX9_about_159 ?_
    refine va_getN (D := (dC, dI)) (ci := 4) (v := .ref a_now_known) (C := RX4) (T := TX4) (N := 6) hx hb hts iX4 hown hK hP 1 rfl rfl 5 (by decide) f113 (fun _ h9 => h9) rfl dX9_about_162 ?_
    obtain ⟨r15, ho16, hm⟩ := bd1_s hm
    refine kb_calli (Rv := r15) (va_runS (As := [.ref a_now_known]) (rest := []) ⟨hx, hb, hml, hown, hts⟩ (c_X8_trueDays l dC dI cI cJ cZ cQ t s.heap.size a_now_known 7 v_now_known (r15) ho16) (va_cwS 1 hts gX9_about_X8_trueDays rfl rfl rfl (by decide +kernel) ⟨(Nat.le_of_ble_eq_true rfl), (Nat.le_of_ble_eq_true rfl)⟩) (kb_pre hK hG hP (kb_D hD rfl) hS hA [2] rfl (by decide)) rfl rfl hl.1 rfl (lv_room (Nat.le_of_ble_eq_true rfl)) dX9_about_165 ⟨Nat.zero_le _, Nat.zero_le _⟩) hP (kb_D hD rfl) hS hA [2] rfl [(false, 0), (false, 1), (true, 0), (false, 3), (false, 4), (false, 5), (false, 6), (false, 7), (false, 8)] (w2 := [oX9 a_th (.ref a_theText) (.ref a_theQuestion) (.ref a_theCastle) (.ref a_now) (.ref a_theActs) (.ref a_theTold) q_foresight q_keptMoments q_isKept q_marchWorlds (.long v_theSeed), oX4 a_now (.int v_now_date) (.int v_now_trueDay) (.int v_now_wasAsked) (.int v_now_clothState) (.int v_now_cracks) (.ref a_now_known), aI cI a_now_known 7 v_now_known, oX5 a_theQuestion (.ref a_theQuestion_letters) q_theQuestion_stack, oX3 a_theQuestion_letters q_theQuestion_letters_bytes (.int v_theQuestion_letters_length), oX3 a_theText q_theText_bytes (.int v_theText_length), oX7 a_theTold q_theTold_simples q_theTold_weekdays q_theTold_answers (.int v_theTold_count), oX0 a_theActs q_theActs_moments q_theActs_seeds (.int v_theActs_next) (.int v_theActs_count), oX1 a_theCastle (.int v_theCastle_facts) (.int v_theCastle_so) (.int v_theCastle_common) (.int v_theCastle_cases) (.int v_theCastle_firstTrueDay)]) rfl (by decide) (fun H locs hP hS => ?_)
    obtain rfl := Option.some.inj hm
    subst hQ
    exact W.iret hx hb hr (fun t ht hW => ⟨⟨_, (), rfl, rfl, kb_h hP ht⟩, hS.F ht⟩) hS.2.2 dX9_about_168
  replace hm := ite_f c14 hm
  rcases Decidable.em (p_1 = (11 : Int32)) with c17 | c17
  · replace hm := ite_t c17 hm
    refine lv_tableIn (tgt := 169) hx hb dX9_about_1 (by rw [c17]; decide) (by rw [c17]; decide) (by rw [c17]; rfl) (by decide) ?_
    refine lv_aload_n hx hb dX9_about_169 rfl (lv_at hl 0 rfl) ?_
    refine va_get (D := (dC, dI)) (ci := 7) (v := .ref a_now) (C := RX9) (T := TX9) (N := 11) hx hb hts iX9 hown hK hP 0 rfl rfl 3 (by decide) f35 (fun _ h9 => h9) rfl dX9_about_170 ?_
    refine va_getN (D := (dC, dI)) (ci := 4) (v := .int v_now_trueDay) (C := RX4) (T := TX4) (N := 6) hx hb hts iX4 hown hK hP 1 rfl rfl 1 (by decide) f141 (fun _ h9 => h9) rfl dX9_about_173 ?_
    obtain rfl := Option.some.inj hm
    subst hQ
    exact W.iret hx hb hr (fun t ht hW => ⟨⟨_, (), rfl, rfl, kb_h hP ht⟩, hS.F ht⟩) hS.2.2 dX9_about_176
  replace hm := ite_f c17 hm
  have tc1 := lv_neT (a := 0) c1 (by decide)
  have tc2 := lv_neT (a := 1) c2 (by decide)
  have tc3 := lv_neT (a := 2) c3 (by decide)
  have tc6 := lv_neT (a := 3) c6 (by decide)
  have tc8 := lv_neT (a := 4) c8 (by decide)
  have tc9 := lv_neT (a := 5) c9 (by decide)
  have tc10 := lv_neT (a := 6) c10 (by decide)
  have tc11 := lv_neT (a := 7) c11 (by decide)
  have tc12 := lv_neT (a := 8) c12 (by decide)
  have tc13 := lv_neT (a := 9) c13 (by decide)
  have tc14 := lv_neT (a := 10) c14 (by decide)
  have tc17 := lv_neT (a := 11) c17 (by decide)
  refine lv_tableOut (tgt := 177) hx hb dX9_about_1 (by omega) (by decide) ?_
  refine lv_bipush (v := (-2 : Int32)) hx hb dX9_about_177 (by decide) ?_
  obtain rfl := Option.some.inj hm
  subst hQ
  exact W.iret hx hb hr (fun t ht hW => ⟨⟨_, (), rfl, rfl, kb_h hP ht⟩, hS.F ht⟩) hS.2.2 dX9_about_179
set_option maxHeartbeats 4000000 in
set_option maxRecDepth 100000 in
theorem c_X8_casesOfAnyDay (l : Launch) (dC : Nat → ClassId) (dI : Nat → Nat → Nat) (cI cJ cZ cQ : ClassId) (t sz : Nat) (a_p0 : Nat) (n_p0 : Nat) (v_p0 : (Nat → Int32)) (o : Int32) (hm : m_X8_casesOfAnyDay n_p0 v_p0 = some o) : Met l yX8_casesOfAnyDay wsX8_casesOfAnyDay { frames := 0, cells := 0, slots := 0, locals := 0 } (va_Pc [.ref a_p0] (cP (dC, dI) (kT cI cJ cZ cQ) t sz [aI cI a_p0 n_p0 v_p0])) (cQi (dC, dI) (va_A [aI cI a_p0 n_p0 v_p0] sz) o [aI cI a_p0 n_p0 v_p0]) 0 0 (va_A [aI cI a_p0 n_p0 v_p0] sz) := by
  refine Met.ofW (cc := cX8_casesOfAnyDay) (maxL := 6) (ret := (some .int)) (by decide) rfl ?_
  intro p e s m args below meth c s₁ B hml hv
  obtain ⟨rfl, hsz, hP, hK, hD0, hG⟩ := hv
  have hx := B.exec
  have hb := B.bytes
  have hr := B.returns
  have hts := atoms_spec (ws := wsX8_casesOfAnyDay) B.pre
  have hown : s.vm.findClass RX8 = some m.cls := findClass_of_methodNamed B.named
  have hlocks := B.notSynchronized
  subst hsz
  have hD := hD0.self (sz := s.heap.size)
  generalize hAe : va_A [aI cI a_p0 n_p0 v_p0] s.heap.size = A at hD hG ⊢
  have hA : ∀ q : Nat, s.heap.size ≤ q → A q := fun q h => by rw [← hAe]; exact Or.inr h
  have hS : va_S A s.heap s.heap [] := va_S.rf
  have hl := lv_entry ([.ref a_p0]) (n := 6) (Nat.le_of_ble_eq_true rfl)
  rw [lg_entry_eq]
  generalize (lg_sl ([.ref a_p0]) ++ List.replicate (6 - (lg_sl ([.ref a_p0])).length) Slot.unset).toArray = ls at hl ⊢
  have hl : lv_has ls 6 [(0, .ref a_p0)] := hl
  refine kb_gen (fun Q hQ => ?_)
  unfold m_X8_casesOfAnyDay at hm
  refine lv_iconst (v := (0 : Int32)) hx hb dX8_casesOfAnyDay_0 (by decide) ?_
  refine lv_istore_n (lv' := [(1, .int (0 : Int32)), (0, .ref a_p0)]) hx hb dX8_casesOfAnyDay_1 rfl hl (by decide) rfl (fun ls hl => ?_)
  refine lv_aload_n hx hb dX8_casesOfAnyDay_2 rfl (lv_at hl 1 rfl) ?_
  refine lv_astore_n (lv' := [(2, .ref a_p0), (1, .int (0 : Int32)), (0, .ref a_p0)]) hx hb dX8_casesOfAnyDay_3 rfl hl (by decide) rfl (fun ls hl => ?_)
  refine lv_aload_n hx hb dX8_casesOfAnyDay_4 rfl (lv_at hl 0 rfl) ?_
  refine va_alen (v := (Int32.ofNat n_p0)) hx hb hK hP 0 0 rfl rfl rfl dX8_casesOfAnyDay_5 ?_
  refine lv_topi (fun x1 ex1 => ?_)
  replace hm := nm_t ex1 hm
  refine lv_istore_n (lv' := [(3, .int x1), (2, .ref a_p0), (1, .int (0 : Int32)), (0, .ref a_p0)]) hx hb dX8_casesOfAnyDay_6 rfl hl (by decide) rfl (fun ls hl => ?_)
  refine lv_iconst (v := (0 : Int32)) hx hb dX8_casesOfAnyDay_7 (by decide) ?_
  refine lv_istore (lv' := [(4, .int (0 : Int32)), (3, .int x1), (2, .ref a_p0), (1, .int (0 : Int32)), (0, .ref a_p0)]) hx hb dX8_casesOfAnyDay_8 hl (by decide) rfl (fun ls hl => ?_)
  have lp10 : ∀ (n10 : Nat) (x2 : Int32) (x3 : Int32) (k10 : Int32 → Option (Int32)) (H : Heap) (locs : List Loc) (ls : Array Slot), L_X8_casesOfAnyDay_10 v_p0 n_p0 x1 n10 x2 x3 k10 = some o → (∀ (x4 : Int32) (H : Heap) (locs : List Loc) (ls : Array Slot), k10 x4 = some o → va_P (dC, dI) vwCl [aI cI a_p0 n_p0 v_p0] H → va_S A s.heap H locs → lv_has ls 6 [(1, .int x4)] → W p l e (headSpec wsX8_casesOfAnyDay { frames := 0, cells := 0, slots := 0, locals := 0 }).room s m [.ref a_p0].toArray below meth c H locs 0 0 Q (F0 m 33 ls [])) → va_P (dC, dI) vwCl [aI cI a_p0 n_p0 v_p0] H → va_S A s.heap H locs → lv_has ls 6 [(1, .int x2), (2, .ref a_p0), (3, .int x1), (4, .int x3)] → W p l e (headSpec wsX8_casesOfAnyDay { frames := 0, cells := 0, slots := 0, locals := 0 }).room s m [.ref a_p0].toArray below meth c H locs 0 0 Q (F0 m 10 ls []) := by
    intro n10
    induction n10 with
    | zero =>
      intro x2 x3 k10 H locs ls hm
      cases (show (none : Option (Int32)) = some o from hm)
    | succ n10 ih10 =>
      intro x2 x3 k10 H locs ls hm hk10 hP hS hl
      rw [L_X8_casesOfAnyDay_10.eq_2] at hm
      refine lv_iload hx hb dX8_casesOfAnyDay_10 (lv_at hl 3 rfl) ?_
      refine lv_iload_n hx hb dX8_casesOfAnyDay_12 rfl (lv_at hl 2 rfl) ?_
      refine lv_icmp_ge (tgt := 33) hx hb dX8_casesOfAnyDay_13 (by decide) (fun c5 => ?_) (fun c5 => ?_)
      · replace hm := ite_t c5 hm
        exact hk10 x2 _ _ _ hm hP hS (lv_sub hl [0] rfl)
      · replace hm := ite_f c5 hm
        refine lv_aload_n hx hb dX8_casesOfAnyDay_16 rfl (lv_at hl 1 rfl) ?_
        refine lv_iload hx hb dX8_casesOfAnyDay_17 (lv_at hl 3 rfl) ?_
        obtain ⟨h6, hm⟩ := gd_s hm
        refine va_iald hx hb hK hP 0 0 rfl rfl (inB_s h6) dX8_casesOfAnyDay_19 ?_
        refine lv_topi (fun x7 ex7 => ?_)
        replace hm := nm_t ex7 hm
        refine lv_istore (lv' := [(5, .int x7), (1, .int x2), (2, .ref a_p0), (3, .int x1), (4, .int x3)]) hx hb dX8_casesOfAnyDay_20 hl (by decide) rfl (fun ls hl => ?_)
        refine lv_iload_n hx hb dX8_casesOfAnyDay_22 rfl (lv_at hl 1 rfl) ?_
        refine lv_iload hx hb dX8_casesOfAnyDay_23 (lv_at hl 0 rfl) ?_
        refine lv_ior hx hb dX8_casesOfAnyDay_25 ?_
        refine lv_topi (fun x8 ex8 => ?_)
        replace hm := nm_t ex8 hm
        refine lv_istore_n (lv' := [(1, .int x8), (5, .int x7), (2, .ref a_p0), (3, .int x1), (4, .int x3)]) hx hb dX8_casesOfAnyDay_26 rfl hl (by decide) rfl (fun ls hl => ?_)
        obtain ⟨x9, ex9⟩ : ∃ y : Int32, y = x3 + (1 : Int32) := ⟨_, rfl⟩
        replace hm := nm_t ex9 hm
        refine lv_iinc (v := x9) (lv' := [(4, .int x9), (1, .int x8), (5, .int x7), (2, .ref a_p0), (3, .int x1)]) hx hb dX8_casesOfAnyDay_27 hl (k := 4) rfl (by rw [ex9]; rfl) (by decide) rfl (fun ls hl => ?_)
        refine lv_goto (tgt := 10) hx hb dX8_casesOfAnyDay_30 (by decide) ?_
        exact ih10 x8 x9 k10 _ _ _ hm hk10 hP hS (lv_sub hl [1, 3, 4, 0] rfl)
  refine lp10 1024 (0 : Int32) (0 : Int32) _ _ _ _ hm (fun x4 H locs ls hm hP hS hl => ?_) hP hS (lv_sub hl [3, 2, 1, 0] rfl)
  refine lv_iload_n hx hb dX8_casesOfAnyDay_33 rfl (lv_at hl 0 rfl) ?_
  obtain rfl := Option.some.inj hm
  subst hQ
  exact W.iret hx hb hr (fun t ht hW => ⟨⟨_, (), rfl, rfl, kb_h hP ht⟩, hS.F ht⟩) hS.2.2 dX8_casesOfAnyDay_34
set_option maxHeartbeats 4000000 in
set_option maxRecDepth 100000 in
theorem c_X9_casesWithFact (l : Launch) (dC : Nat → ClassId) (dI : Nat → Nat → Nat) (cI cJ cZ cQ : ClassId) (t sz : Nat) (p_0 : Int32) (o : Int32) (hm : m_X9_casesWithFact p_0 = some o) : Met l yX9_casesWithFact wsX9_casesWithFact { frames := 0, cells := 0, slots := 0, locals := 0 } (va_Pc [.int p_0] (cP (dC, dI) (kT cI cJ cZ cQ) t sz [])) (cQi (dC, dI) (va_A [] sz) o []) 0 0 (va_A [] sz) := by
  refine Met.ofW (cc := cX9_casesWithFact) (maxL := 1) (ret := (some .int)) (by decide) rfl ?_
  intro p e s m args below meth c s₁ B hml hv
  obtain ⟨rfl, hsz, hP, hK, hD0, hG⟩ := hv
  have hx := B.exec
  have hb := B.bytes
  have hr := B.returns
  have hts := atoms_spec (ws := wsX9_casesWithFact) B.pre
  have hown : s.vm.findClass RX9 = some m.cls := findClass_of_methodNamed B.named
  have hlocks := B.notSynchronized
  subst hsz
  have hD := hD0.self (sz := s.heap.size)
  generalize hAe : va_A [] s.heap.size = A at hD hG ⊢
  have hA : ∀ q : Nat, s.heap.size ≤ q → A q := fun q h => by rw [← hAe]; exact Or.inr h
  have hS : va_S A s.heap s.heap [] := va_S.rf
  have hl := lv_entry ([.int p_0]) (n := 1) (Nat.le_of_ble_eq_true rfl)
  rw [lg_entry_eq]
  generalize (lg_sl ([.int p_0]) ++ List.replicate (1 - (lg_sl ([.int p_0])).length) Slot.unset).toArray = ls at hl ⊢
  have hl : lv_has ls 1 [(0, .int p_0)] := hl
  have f303 := hts (.fieldLink RX9 303 "TrueOnceWeek" "CASES_WITH_FACT" "[I") (by decide +kernel)
  refine kb_gen (fun Q hQ => ?_)
  unfold m_X9_casesWithFact at hm
  refine lv_iload_n hx hb dX9_casesWithFact_0 rfl (lv_at hl 0 rfl) ?_
  obtain ⟨k17, ek17, hm⟩ := nm_s hm
  have J17 : ∀ (H : Heap) (locs : List Loc) (ls : Array Slot), k17 = some o → va_P (dC, dI) vwCl [] H → va_S A s.heap H locs → lv_has ls 1 [] → W p l e (headSpec wsX9_casesWithFact { frames := 0, cells := 0, slots := 0, locals := 0 }).room s m [.int p_0].toArray below meth c H locs 0 0 Q (F0 m 17 ls []) := by
    intro  H locs ls hm hP hS hl
    rw [ek17] at hm
    refine lv_iconst (v := (0 : Int32)) hx hb dX9_casesWithFact_17 (by decide) ?_
    obtain rfl := Option.some.inj hm
    subst hQ
    exact W.iret hx hb hr (fun t ht hW => ⟨⟨_, (), rfl, rfl, kb_h hP ht⟩, hS.F ht⟩) hS.2.2 dX9_casesWithFact_18
  refine lv_if_lt (tgt := 17) hx hb dX9_casesWithFact_1 (by decide) (fun c1 => ?_) (fun c1 => ?_)
  · replace hm := ite_t c1 hm
    exact J17  _ _ _ hm hP hS (lv_sub hl [] rfl)
  · replace hm := ite_f c1 hm
    refine lv_iload_n hx hb dX9_casesWithFact_4 rfl (lv_at hl 0 rfl) ?_
    refine lv_iconst (v := (5 : Int32)) hx hb dX9_casesWithFact_5 (by decide) ?_
    refine lv_icmp_ge (tgt := 17) hx hb dX9_casesWithFact_6 (by decide) (fun c2 => ?_) (fun c2 => ?_)
    · replace hm := ite_t c2 hm
      exact J17  _ _ _ hm hP hS (lv_sub hl [] rfl)
    · replace hm := ite_f c2 hm
      refine va_gets hx hb hG.2.2.1 hS hown f303 (fun _ h9 => h9) dX9_casesWithFact_9 ?_
      refine lv_iload_n hx hb dX9_casesWithFact_12 rfl (lv_at hl 0 rfl) ?_
      obtain ⟨h3, hm⟩ := gd_s hm
      refine va_ti (v := .int (cF (Int32.toNatClampNeg p_0))) hx hb hG.2.2.2.1 hS (inB_s h3) rfl dX9_casesWithFact_13 ?_
      refine lv_goto (tgt := 18) hx hb dX9_casesWithFact_14 (by decide) ?_
      obtain rfl := Option.some.inj hm
      subst hQ
      exact W.iret hx hb hr (fun t ht hW => ⟨⟨_, (), rfl, rfl, kb_h hP ht⟩, hS.F ht⟩) hS.2.2 dX9_casesWithFact_18
set_option maxHeartbeats 4000000 in
set_option maxRecDepth 100000 in
theorem c_X9_isSoInAll (l : Launch) (dC : Nat → ClassId) (dI : Nat → Nat → Nat) (cI cJ cZ cQ : ClassId) (t sz : Nat) (p_0 : Int32) (p_1 : Int32) (o : Int32) (hm : m_X9_isSoInAll p_0 p_1 = some o) : Met l yX9_isSoInAll wsX9_isSoInAll { frames := 1, cells := 0, slots := 0, locals := 20 } (va_Pc [.int p_0, .int p_1] (cP (dC, dI) (kT cI cJ cZ cQ) t sz [])) (cQi (dC, dI) (va_A [] sz) o []) 0 0 (va_A [] sz) := by
  refine Met.ofW (cc := cX9_isSoInAll) (maxL := 2) (ret := (some .boolean)) (by decide) rfl ?_
  intro p e s m args below meth c s₁ B hml hv
  obtain ⟨rfl, hsz, hP, hK, hD0, hG⟩ := hv
  have hx := B.exec
  have hb := B.bytes
  have hr := B.returns
  have hts := atoms_spec (ws := wsX9_isSoInAll) B.pre
  have hown : s.vm.findClass RX9 = some m.cls := findClass_of_methodNamed B.named
  have hlocks := B.notSynchronized
  subst hsz
  have hD := hD0.self (sz := s.heap.size)
  generalize hAe : va_A [] s.heap.size = A at hD hG ⊢
  have hA : ∀ q : Nat, s.heap.size ≤ q → A q := fun q h => by rw [← hAe]; exact Or.inr h
  have hS : va_S A s.heap s.heap [] := va_S.rf
  have hl := lv_entry ([.int p_0, .int p_1]) (n := 2) (Nat.le_of_ble_eq_true rfl)
  rw [lg_entry_eq]
  generalize (lg_sl ([.int p_0, .int p_1]) ++ List.replicate (2 - (lg_sl ([.int p_0, .int p_1])).length) Slot.unset).toArray = ls at hl ⊢
  have hl : lv_has ls 2 [(0, .int p_0), (1, .int p_1)] := hl
  refine kb_gen (fun Q hQ => ?_)
  unfold m_X9_isSoInAll at hm
  refine lv_iload_n hx hb dX9_isSoInAll_0 rfl (lv_at hl 0 rfl) ?_
  refine lv_iload_n hx hb dX9_isSoInAll_1 rfl (lv_at hl 1 rfl) ?_
  obtain ⟨r1, ho2, hm⟩ := bd1_s hm
  refine kb_calli (Rv := r1) (va_runS (As := [.int p_1]) (rest := [.int p_0]) ⟨hx, hb, hml, hown, hts⟩ (c_X9_casesWithFact l dC dI cI cJ cZ cQ t s.heap.size p_1 (r1) ho2) (va_cwS 1 hts gX9_isSoInAll_X9_casesWithFact rfl rfl rfl (by decide +kernel) ⟨(Nat.le_of_ble_eq_true rfl), (Nat.le_of_ble_eq_true rfl)⟩) (kb_pre hK hG hP (kb_D hD rfl) hS hA [] rfl (by decide)) rfl rfl hl.1 rfl (lv_room (Nat.le_of_ble_eq_true rfl)) dX9_isSoInAll_2 ⟨Nat.zero_le _, Nat.zero_le _⟩) hP (kb_D hD rfl) hS hA [] rfl [] (w2 := []) rfl (by decide) (fun H locs hP hS => ?_)
  refine lv_iconst (v := (-1 : Int32)) hx hb dX9_isSoInAll_5 (by decide) ?_
  refine lv_ixor hx hb dX9_isSoInAll_6 ?_
  refine lv_iand hx hb dX9_isSoInAll_7 ?_
  refine lv_if_ne (tgt := 15) hx hb dX9_isSoInAll_8 (by decide) (fun c3 => ?_) (fun c3 => ?_)
  · replace hm := ite_f c3 hm
    refine lv_iconst (v := (0 : Int32)) hx hb dX9_isSoInAll_15 (by decide) ?_
    obtain rfl := Option.some.inj hm
    subst hQ
    exact W.zret hx hb hr rfl (fun t ht hW => ⟨⟨_, (), rfl, rfl, kb_h hP ht⟩, hS.F ht⟩) hS.2.2 dX9_isSoInAll_16
  · replace hm := ite_t c3 hm
    refine lv_iconst (v := (1 : Int32)) hx hb dX9_isSoInAll_11 (by decide) ?_
    refine lv_goto (tgt := 16) hx hb dX9_isSoInAll_12 (by decide) ?_
    obtain rfl := Option.some.inj hm
    subst hQ
    exact W.zret hx hb hr rfl (fun t ht hW => ⟨⟨_, (), rfl, rfl, kb_h hP ht⟩, hS.F ht⟩) hS.2.2 dX9_isSoInAll_16
set_option maxHeartbeats 4000000 in
set_option maxRecDepth 100000 in
theorem c_X9_isSoInNone (l : Launch) (dC : Nat → ClassId) (dI : Nat → Nat → Nat) (cI cJ cZ cQ : ClassId) (t sz : Nat) (p_0 : Int32) (p_1 : Int32) (o : Int32) (hm : m_X9_isSoInNone p_0 p_1 = some o) : Met l yX9_isSoInNone wsX9_isSoInNone { frames := 1, cells := 0, slots := 0, locals := 20 } (va_Pc [.int p_0, .int p_1] (cP (dC, dI) (kT cI cJ cZ cQ) t sz [])) (cQi (dC, dI) (va_A [] sz) o []) 0 0 (va_A [] sz) := by
  refine Met.ofW (cc := cX9_isSoInNone) (maxL := 2) (ret := (some .boolean)) (by decide) rfl ?_
  intro p e s m args below meth c s₁ B hml hv
  obtain ⟨rfl, hsz, hP, hK, hD0, hG⟩ := hv
  have hx := B.exec
  have hb := B.bytes
  have hr := B.returns
  have hts := atoms_spec (ws := wsX9_isSoInNone) B.pre
  have hown : s.vm.findClass RX9 = some m.cls := findClass_of_methodNamed B.named
  have hlocks := B.notSynchronized
  subst hsz
  have hD := hD0.self (sz := s.heap.size)
  generalize hAe : va_A [] s.heap.size = A at hD hG ⊢
  have hA : ∀ q : Nat, s.heap.size ≤ q → A q := fun q h => by rw [← hAe]; exact Or.inr h
  have hS : va_S A s.heap s.heap [] := va_S.rf
  have hl := lv_entry ([.int p_0, .int p_1]) (n := 2) (Nat.le_of_ble_eq_true rfl)
  rw [lg_entry_eq]
  generalize (lg_sl ([.int p_0, .int p_1]) ++ List.replicate (2 - (lg_sl ([.int p_0, .int p_1])).length) Slot.unset).toArray = ls at hl ⊢
  have hl : lv_has ls 2 [(0, .int p_0), (1, .int p_1)] := hl
  refine kb_gen (fun Q hQ => ?_)
  unfold m_X9_isSoInNone at hm
  refine lv_iload_n hx hb dX9_isSoInNone_0 rfl (lv_at hl 0 rfl) ?_
  refine lv_iload_n hx hb dX9_isSoInNone_1 rfl (lv_at hl 1 rfl) ?_
  obtain ⟨r1, ho2, hm⟩ := bd1_s hm
  refine kb_calli (Rv := r1) (va_runS (As := [.int p_1]) (rest := [.int p_0]) ⟨hx, hb, hml, hown, hts⟩ (c_X9_casesWithFact l dC dI cI cJ cZ cQ t s.heap.size p_1 (r1) ho2) (va_cwS 1 hts gX9_isSoInNone_X9_casesWithFact rfl rfl rfl (by decide +kernel) ⟨(Nat.le_of_ble_eq_true rfl), (Nat.le_of_ble_eq_true rfl)⟩) (kb_pre hK hG hP (kb_D hD rfl) hS hA [] rfl (by decide)) rfl rfl hl.1 rfl (lv_room (Nat.le_of_ble_eq_true rfl)) dX9_isSoInNone_2 ⟨Nat.zero_le _, Nat.zero_le _⟩) hP (kb_D hD rfl) hS hA [] rfl [] (w2 := []) rfl (by decide) (fun H locs hP hS => ?_)
  refine lv_iand hx hb dX9_isSoInNone_5 ?_
  refine lv_if_ne (tgt := 13) hx hb dX9_isSoInNone_6 (by decide) (fun c3 => ?_) (fun c3 => ?_)
  · replace hm := ite_f c3 hm
    refine lv_iconst (v := (0 : Int32)) hx hb dX9_isSoInNone_13 (by decide) ?_
    obtain rfl := Option.some.inj hm
    subst hQ
    exact W.zret hx hb hr rfl (fun t ht hW => ⟨⟨_, (), rfl, rfl, kb_h hP ht⟩, hS.F ht⟩) hS.2.2 dX9_isSoInNone_14
  · replace hm := ite_t c3 hm
    refine lv_iconst (v := (1 : Int32)) hx hb dX9_isSoInNone_9 (by decide) ?_
    refine lv_goto (tgt := 14) hx hb dX9_isSoInNone_10 (by decide) ?_
    obtain rfl := Option.some.inj hm
    subst hQ
    exact W.zret hx hb hr rfl (fun t ht hW => ⟨⟨_, (), rfl, rfl, kb_h hP ht⟩, hS.F ht⟩) hS.2.2 dX9_isSoInNone_14
set_option maxHeartbeats 4000000 in
set_option maxRecDepth 100000 in
theorem c_X9_knownOfFact (l : Launch) (dC : Nat → ClassId) (dI : Nat → Nat → Nat) (cI cJ cZ cQ : ClassId) (t sz : Nat) (a_th : Nat) (a_now : Nat) (a_now_known : Nat) (q_theText : Value) (q_theQuestion : Value) (q_theCastle : Value) (q_theActs : Value) (q_theTold : Value) (q_foresight : Value) (q_keptMoments : Value) (q_isKept : Value) (q_marchWorlds : Value) (v_theSeed : Int64) (v_now_date : Int32) (v_now_trueDay : Int32) (v_now_wasAsked : Int32) (v_now_clothState : Int32) (v_now_cracks : Int32) (v_now_known : (Nat → Int32)) (p_1 : Int32) (o : Int32) (hm : m_X9_knownOfFact p_1 v_now_known = some o) : Met l yX9_knownOfFact wsX9_knownOfFact { frames := 2, cells := 0, slots := 0, locals := 41 } (va_Pc [.ref a_th, .int p_1] (cP (dC, dI) (kT cI cJ cZ cQ) t sz [oX9 a_th q_theText q_theQuestion q_theCastle (.ref a_now) q_theActs q_theTold q_foresight q_keptMoments q_isKept q_marchWorlds (.long v_theSeed), oX4 a_now (.int v_now_date) (.int v_now_trueDay) (.int v_now_wasAsked) (.int v_now_clothState) (.int v_now_cracks) (.ref a_now_known), aI cI a_now_known 7 v_now_known])) (cQi (dC, dI) (va_A [oX9 a_th q_theText q_theQuestion q_theCastle (.ref a_now) q_theActs q_theTold q_foresight q_keptMoments q_isKept q_marchWorlds (.long v_theSeed), oX4 a_now (.int v_now_date) (.int v_now_trueDay) (.int v_now_wasAsked) (.int v_now_clothState) (.int v_now_cracks) (.ref a_now_known), aI cI a_now_known 7 v_now_known] sz) o [oX9 a_th q_theText q_theQuestion q_theCastle (.ref a_now) q_theActs q_theTold q_foresight q_keptMoments q_isKept q_marchWorlds (.long v_theSeed), oX4 a_now (.int v_now_date) (.int v_now_trueDay) (.int v_now_wasAsked) (.int v_now_clothState) (.int v_now_cracks) (.ref a_now_known), aI cI a_now_known 7 v_now_known]) 0 0 (va_A [oX9 a_th q_theText q_theQuestion q_theCastle (.ref a_now) q_theActs q_theTold q_foresight q_keptMoments q_isKept q_marchWorlds (.long v_theSeed), oX4 a_now (.int v_now_date) (.int v_now_trueDay) (.int v_now_wasAsked) (.int v_now_clothState) (.int v_now_cracks) (.ref a_now_known), aI cI a_now_known 7 v_now_known] sz) := by
  refine Met.ofW (cc := cX9_knownOfFact) (maxL := 3) (ret := (some .int)) (by decide) rfl ?_
  intro p e s m args below meth c s₁ B hml hv
  obtain ⟨rfl, hsz, hP, hK, hD0, hG⟩ := hv
  have hx := B.exec
  have hb := B.bytes
  have hr := B.returns
  have hts := atoms_spec (ws := wsX9_knownOfFact) B.pre
  have hown : s.vm.findClass RX9 = some m.cls := findClass_of_methodNamed B.named
  have hlocks := B.notSynchronized
  subst hsz
  have hD := hD0.self (sz := s.heap.size)
  generalize hAe : va_A [oX9 a_th q_theText q_theQuestion q_theCastle (.ref a_now) q_theActs q_theTold q_foresight q_keptMoments q_isKept q_marchWorlds (.long v_theSeed), oX4 a_now (.int v_now_date) (.int v_now_trueDay) (.int v_now_wasAsked) (.int v_now_clothState) (.int v_now_cracks) (.ref a_now_known), aI cI a_now_known 7 v_now_known] s.heap.size = A at hD hG ⊢
  have hA : ∀ q : Nat, s.heap.size ≤ q → A q := fun q h => by rw [← hAe]; exact Or.inr h
  have hS : va_S A s.heap s.heap [] := va_S.rf
  have hl := lv_entry ([.ref a_th, .int p_1]) (n := 3) (Nat.le_of_ble_eq_true rfl)
  rw [lg_entry_eq]
  generalize (lg_sl ([.ref a_th, .int p_1]) ++ List.replicate (3 - (lg_sl ([.ref a_th, .int p_1])).length) Slot.unset).toArray = ls at hl ⊢
  have hl : lv_has ls 3 [(0, .ref a_th), (1, .int p_1)] := hl
  have iX9 : ∀ w ∈ wsX90, w ∈ wsX9_knownOfFact := fun _ h => List.mem_cons_of_mem _ (List.mem_append_left _ (List.mem_append_right _ h))
  have iX4 : ∀ w ∈ wsX40, w ∈ wsX9_knownOfFact := fun _ h => List.mem_cons_of_mem _ (List.mem_append_right _ h)
  have f35 := hts (.fieldLink RX9 35 "TrueOnceWeek" "now" "LTrueOnceWeek$Moment;") (by decide +kernel)
  have f113 := va_Nw.use (A := [.ref a_th, .int p_1].toArray) (w := .fieldLinkNest RX9 113 "TrueOnceWeek$Moment" "known" "[I" "TrueOnceWeek") rfl (hG.1 (RX9, 113, "TrueOnceWeek$Moment", "known", "[I") (by decide +kernel))
  refine kb_gen (fun Q hQ => ?_)
  unfold m_X9_knownOfFact at hm
  refine lv_aload_n hx hb dX9_knownOfFact_0 rfl (lv_at hl 0 rfl) ?_
  refine va_get (D := (dC, dI)) (ci := 7) (v := .ref a_now) (C := RX9) (T := TX9) (N := 11) hx hb hts iX9 hown hK hP 0 rfl rfl 3 (by decide) f35 (fun _ h9 => h9) rfl dX9_knownOfFact_1 ?_
  refine va_getN (D := (dC, dI)) (ci := 4) (v := .ref a_now_known) (C := RX4) (T := TX4) (N := 6) hx hb hts iX4 hown hK hP 1 rfl rfl 5 (by decide) f113 (fun _ h9 => h9) rfl dX9_knownOfFact_4 ?_
  obtain ⟨r1, ho2, hm⟩ := bd1_s hm
  refine kb_calli (Rv := r1) (va_runS (As := [.ref a_now_known]) (rest := []) ⟨hx, hb, hml, hown, hts⟩ (c_X8_casesOfAnyDay l dC dI cI cJ cZ cQ t s.heap.size a_now_known 7 v_now_known (r1) ho2) (va_cwS 1 hts gX9_knownOfFact_X8_casesOfAnyDay rfl rfl rfl (by decide +kernel) ⟨(Nat.le_of_ble_eq_true rfl), (Nat.le_of_ble_eq_true rfl)⟩) (kb_pre hK hG hP (kb_D hD rfl) hS hA [2] rfl (by decide)) rfl rfl hl.1 rfl (lv_room (Nat.le_of_ble_eq_true rfl)) dX9_knownOfFact_7 ⟨Nat.zero_le _, Nat.zero_le _⟩) hP (kb_D hD rfl) hS hA [2] rfl [(false, 0), (false, 1), (true, 0)] (w2 := [oX9 a_th q_theText q_theQuestion q_theCastle (.ref a_now) q_theActs q_theTold q_foresight q_keptMoments q_isKept q_marchWorlds (.long v_theSeed), oX4 a_now (.int v_now_date) (.int v_now_trueDay) (.int v_now_wasAsked) (.int v_now_clothState) (.int v_now_cracks) (.ref a_now_known), aI cI a_now_known 7 v_now_known]) rfl (by decide) (fun H locs hP hS => ?_)
  refine lv_istore_n (lv' := [(2, .int r1), (0, .ref a_th), (1, .int p_1)]) hx hb dX9_knownOfFact_10 rfl hl (by decide) rfl (fun ls hl => ?_)
  refine lv_iload_n hx hb dX9_knownOfFact_11 rfl (lv_at hl 0 rfl) ?_
  refine lv_iload_n hx hb dX9_knownOfFact_12 rfl (lv_at hl 2 rfl) ?_
  obtain ⟨r3, ho4, hm⟩ := bd1_s hm
  refine kb_calli (Rv := r3) (va_runS (As := [.int r1, .int p_1]) (rest := []) ⟨hx, hb, hml, hown, hts⟩ (c_X9_isSoInAll l dC dI cI cJ cZ cQ t H.size r1 p_1 (r3) ho4) (va_cwS 2 hts gX9_knownOfFact_X9_isSoInAll rfl rfl rfl (by decide +kernel) ⟨(Nat.le_of_ble_eq_true rfl), (Nat.le_of_ble_eq_true rfl)⟩) (kb_pre hK hG hP (kb_D hD rfl) hS hA [] rfl (by decide)) rfl rfl hl.1 rfl (lv_room (Nat.le_of_ble_eq_true rfl)) dX9_knownOfFact_13 ⟨Nat.zero_le _, Nat.zero_le _⟩) hP (kb_D hD rfl) hS hA [] rfl [(false, 0), (false, 1), (false, 2)] (w2 := [oX9 a_th q_theText q_theQuestion q_theCastle (.ref a_now) q_theActs q_theTold q_foresight q_keptMoments q_isKept q_marchWorlds (.long v_theSeed), oX4 a_now (.int v_now_date) (.int v_now_trueDay) (.int v_now_wasAsked) (.int v_now_clothState) (.int v_now_cracks) (.ref a_now_known), aI cI a_now_known 7 v_now_known]) rfl (by decide) (fun H locs hP hS => ?_)
  refine lv_if_eq (tgt := 21) hx hb dX9_knownOfFact_16 (by decide) (fun c5 => ?_) (fun c5 => ?_)
  · replace hm := ite_t c5 hm
    refine lv_iload_n hx hb dX9_knownOfFact_21 rfl (lv_at hl 0 rfl) ?_
    refine lv_iload_n hx hb dX9_knownOfFact_22 rfl (lv_at hl 2 rfl) ?_
    obtain ⟨r6, ho7, hm⟩ := bd1_s hm
    refine kb_calli (Rv := r6) (va_runS (As := [.int r1, .int p_1]) (rest := []) ⟨hx, hb, hml, hown, hts⟩ (c_X9_isSoInNone l dC dI cI cJ cZ cQ t H.size r1 p_1 (r6) ho7) (va_cwS 2 hts gX9_knownOfFact_X9_isSoInNone rfl rfl rfl (by decide +kernel) ⟨(Nat.le_of_ble_eq_true rfl), (Nat.le_of_ble_eq_true rfl)⟩) (kb_pre hK hG hP (kb_D hD rfl) hS hA [] rfl (by decide)) rfl rfl hl.1 rfl (lv_room (Nat.le_of_ble_eq_true rfl)) dX9_knownOfFact_23 ⟨Nat.zero_le _, Nat.zero_le _⟩) hP (kb_D hD rfl) hS hA [] rfl [(false, 0), (false, 1), (false, 2)] (w2 := [oX9 a_th q_theText q_theQuestion q_theCastle (.ref a_now) q_theActs q_theTold q_foresight q_keptMoments q_isKept q_marchWorlds (.long v_theSeed), oX4 a_now (.int v_now_date) (.int v_now_trueDay) (.int v_now_wasAsked) (.int v_now_clothState) (.int v_now_cracks) (.ref a_now_known), aI cI a_now_known 7 v_now_known]) rfl (by decide) (fun H locs hP hS => ?_)
    refine lv_if_eq (tgt := 33) hx hb dX9_knownOfFact_26 (by decide) (fun c8 => ?_) (fun c8 => ?_)
    · replace hm := ite_t c8 hm
      refine lv_bipush (v := (-9 : Int32)) hx hb dX9_knownOfFact_33 (by decide) ?_
      obtain rfl := Option.some.inj hm
      subst hQ
      exact W.iret hx hb hr (fun t ht hW => ⟨⟨_, (), rfl, rfl, kb_h hP ht⟩, hS.F ht⟩) hS.2.2 dX9_knownOfFact_35
    · replace hm := ite_f c8 hm
      refine lv_iconst (v := (0 : Int32)) hx hb dX9_knownOfFact_29 (by decide) ?_
      refine lv_goto (tgt := 35) hx hb dX9_knownOfFact_30 (by decide) ?_
      obtain rfl := Option.some.inj hm
      subst hQ
      exact W.iret hx hb hr (fun t ht hW => ⟨⟨_, (), rfl, rfl, kb_h hP ht⟩, hS.F ht⟩) hS.2.2 dX9_knownOfFact_35
  · replace hm := ite_f c5 hm
    refine lv_iconst (v := (1 : Int32)) hx hb dX9_knownOfFact_19 (by decide) ?_
    obtain rfl := Option.some.inj hm
    subst hQ
    exact W.iret hx hb hr (fun t ht hW => ⟨⟨_, (), rfl, rfl, kb_h hP ht⟩, hS.F ht⟩) hS.2.2 dX9_knownOfFact_20
set_option maxHeartbeats 4000000 in
set_option maxRecDepth 100000 in
theorem c_X9_fact (l : Launch) (dC : Nat → ClassId) (dI : Nat → Nat → Nat) (cI cJ cZ cQ : ClassId) (t sz : Nat) (a_th : Nat) (a_theCastle : Nat) (a_now : Nat) (a_now_known : Nat) (q_theText : Value) (q_theQuestion : Value) (q_theActs : Value) (q_theTold : Value) (q_foresight : Value) (q_keptMoments : Value) (q_isKept : Value) (q_marchWorlds : Value) (v_theSeed : Int64) (v_theCastle_facts : Int32) (v_theCastle_so : Int32) (v_theCastle_common : Int32) (v_theCastle_cases : Int32) (v_theCastle_firstTrueDay : Int32) (v_now_date : Int32) (v_now_trueDay : Int32) (v_now_wasAsked : Int32) (v_now_clothState : Int32) (v_now_cracks : Int32) (v_now_known : (Nat → Int32)) (p_1 : Int32) (p_2 : Int32) (o : Int32) (hm : m_X9_fact p_1 p_2 v_theCastle_facts v_theCastle_so v_theCastle_common v_now_known = some o) : Met l yX9_fact wsX9_fact { frames := 3, cells := 0, slots := 0, locals := 63 } (va_Pc [.ref a_th, .int p_1, .int p_2] (cP (dC, dI) (kT cI cJ cZ cQ) t sz [oX9 a_th q_theText q_theQuestion (.ref a_theCastle) (.ref a_now) q_theActs q_theTold q_foresight q_keptMoments q_isKept q_marchWorlds (.long v_theSeed), oX1 a_theCastle (.int v_theCastle_facts) (.int v_theCastle_so) (.int v_theCastle_common) (.int v_theCastle_cases) (.int v_theCastle_firstTrueDay), oX4 a_now (.int v_now_date) (.int v_now_trueDay) (.int v_now_wasAsked) (.int v_now_clothState) (.int v_now_cracks) (.ref a_now_known), aI cI a_now_known 7 v_now_known])) (cQi (dC, dI) (va_A [oX9 a_th q_theText q_theQuestion (.ref a_theCastle) (.ref a_now) q_theActs q_theTold q_foresight q_keptMoments q_isKept q_marchWorlds (.long v_theSeed), oX1 a_theCastle (.int v_theCastle_facts) (.int v_theCastle_so) (.int v_theCastle_common) (.int v_theCastle_cases) (.int v_theCastle_firstTrueDay), oX4 a_now (.int v_now_date) (.int v_now_trueDay) (.int v_now_wasAsked) (.int v_now_clothState) (.int v_now_cracks) (.ref a_now_known), aI cI a_now_known 7 v_now_known] sz) o [oX9 a_th q_theText q_theQuestion (.ref a_theCastle) (.ref a_now) q_theActs q_theTold q_foresight q_keptMoments q_isKept q_marchWorlds (.long v_theSeed), oX1 a_theCastle (.int v_theCastle_facts) (.int v_theCastle_so) (.int v_theCastle_common) (.int v_theCastle_cases) (.int v_theCastle_firstTrueDay), oX4 a_now (.int v_now_date) (.int v_now_trueDay) (.int v_now_wasAsked) (.int v_now_clothState) (.int v_now_cracks) (.ref a_now_known), aI cI a_now_known 7 v_now_known]) 0 0 (va_A [oX9 a_th q_theText q_theQuestion (.ref a_theCastle) (.ref a_now) q_theActs q_theTold q_foresight q_keptMoments q_isKept q_marchWorlds (.long v_theSeed), oX1 a_theCastle (.int v_theCastle_facts) (.int v_theCastle_so) (.int v_theCastle_common) (.int v_theCastle_cases) (.int v_theCastle_firstTrueDay), oX4 a_now (.int v_now_date) (.int v_now_trueDay) (.int v_now_wasAsked) (.int v_now_clothState) (.int v_now_cracks) (.ref a_now_known), aI cI a_now_known 7 v_now_known] sz) := by
  refine Met.ofW (cc := cX9_fact) (maxL := 3) (ret := (some .int)) (by decide) rfl ?_
  intro p e s m args below meth c s₁ B hml hv
  obtain ⟨rfl, hsz, hP, hK, hD0, hG⟩ := hv
  have hx := B.exec
  have hb := B.bytes
  have hr := B.returns
  have hts := atoms_spec (ws := wsX9_fact) B.pre
  have hown : s.vm.findClass RX9 = some m.cls := findClass_of_methodNamed B.named
  have hlocks := B.notSynchronized
  subst hsz
  have hD := hD0.self (sz := s.heap.size)
  generalize hAe : va_A [oX9 a_th q_theText q_theQuestion (.ref a_theCastle) (.ref a_now) q_theActs q_theTold q_foresight q_keptMoments q_isKept q_marchWorlds (.long v_theSeed), oX1 a_theCastle (.int v_theCastle_facts) (.int v_theCastle_so) (.int v_theCastle_common) (.int v_theCastle_cases) (.int v_theCastle_firstTrueDay), oX4 a_now (.int v_now_date) (.int v_now_trueDay) (.int v_now_wasAsked) (.int v_now_clothState) (.int v_now_cracks) (.ref a_now_known), aI cI a_now_known 7 v_now_known] s.heap.size = A at hD hG ⊢
  have hA : ∀ q : Nat, s.heap.size ≤ q → A q := fun q h => by rw [← hAe]; exact Or.inr h
  have hS : va_S A s.heap s.heap [] := va_S.rf
  have hl := lv_entry ([.ref a_th, .int p_1, .int p_2]) (n := 3) (Nat.le_of_ble_eq_true rfl)
  rw [lg_entry_eq]
  generalize (lg_sl ([.ref a_th, .int p_1, .int p_2]) ++ List.replicate (3 - (lg_sl ([.ref a_th, .int p_1, .int p_2])).length) Slot.unset).toArray = ls at hl ⊢
  have hl : lv_has ls 3 [(0, .ref a_th), (1, .int p_1), (2, .int p_2)] := hl
  have iX9 : ∀ w ∈ wsX90, w ∈ wsX9_fact := fun _ h => List.mem_cons_of_mem _ (List.mem_append_left _ (List.mem_append_left _ (List.mem_append_right _ h)))
  have iX1 : ∀ w ∈ wsX10, w ∈ wsX9_fact := fun _ h => List.mem_cons_of_mem _ (List.mem_append_left _ (List.mem_append_right _ h))
  have iX4 : ∀ w ∈ wsX40, w ∈ wsX9_fact := fun _ h => List.mem_cons_of_mem _ (List.mem_append_right _ h)
  have f28 := hts (.fieldLink RX9 28 "TrueOnceWeek" "theCastle" "LTrueOnceWeek$Castle;") (by decide +kernel)
  have f148 := va_Nw.use (A := [.ref a_th, .int p_1, .int p_2].toArray) (w := .fieldLinkNest RX9 148 "TrueOnceWeek$Castle" "so" "I" "TrueOnceWeek") rfl (hG.1 (RX9, 148, "TrueOnceWeek$Castle", "so", "I") (by decide +kernel))
  have f151 := va_Nw.use (A := [.ref a_th, .int p_1, .int p_2].toArray) (w := .fieldLinkNest RX9 151 "TrueOnceWeek$Castle" "common" "I" "TrueOnceWeek") rfl (hG.1 (RX9, 151, "TrueOnceWeek$Castle", "common", "I") (by decide +kernel))
  refine kb_gen (fun Q hQ => ?_)
  unfold m_X9_fact at hm
  refine lv_aload_n hx hb dX9_fact_0 rfl (lv_at hl 0 rfl) ?_
  refine va_get (D := (dC, dI)) (ci := 7) (v := .ref a_theCastle) (C := RX9) (T := TX9) (N := 11) hx hb hts iX9 hown hK hP 0 rfl rfl 2 (by decide) f28 (fun _ h9 => h9) rfl dX9_fact_1 ?_
  refine lv_iload_n hx hb dX9_fact_4 rfl (lv_at hl 1 rfl) ?_
  obtain ⟨r1, ho2, hm⟩ := bd1_s hm
  refine kb_calli (Rv := r1) (va_runV (As := [.int p_1]) (rest := []) ⟨hx, hb, hml, hown, hts⟩ (c_X1_hasFact l dC dI cI cJ cZ cQ t s.heap.size a_theCastle v_theCastle_facts v_theCastle_so v_theCastle_common v_theCastle_cases v_theCastle_firstTrueDay p_1 (r1) ho2) (cwV 1 hts gX9_fact_X1_hasFact rfl rfl rfl (by decide +kernel) ⟨(Nat.le_of_ble_eq_true rfl), (Nat.le_of_ble_eq_true rfl)⟩) ⟨(kb_pre hK hG hP (kb_D hD rfl) hS hA [1] rfl (by decide)).1, (va_recv hK hP (ci := 1) (q0 := 1) rfl rfl), (kb_pre hK hG hP (kb_D hD rfl) hS hA [1] rfl (by decide)).2⟩ rfl rfl hl.1 rfl (lv_room (Nat.le_of_ble_eq_true rfl)) dX9_fact_5 ⟨Nat.zero_le _, Nat.zero_le _⟩) hP (kb_D hD rfl) hS hA [1] rfl [(false, 0), (true, 0), (false, 2), (false, 3)] (w2 := [oX9 a_th q_theText q_theQuestion (.ref a_theCastle) (.ref a_now) q_theActs q_theTold q_foresight q_keptMoments q_isKept q_marchWorlds (.long v_theSeed), oX1 a_theCastle (.int v_theCastle_facts) (.int v_theCastle_so) (.int v_theCastle_common) (.int v_theCastle_cases) (.int v_theCastle_firstTrueDay), oX4 a_now (.int v_now_date) (.int v_now_trueDay) (.int v_now_wasAsked) (.int v_now_clothState) (.int v_now_cracks) (.ref a_now_known), aI cI a_now_known 7 v_now_known]) rfl (by decide) (fun H locs hP hS => ?_)
  refine lv_if_ne (tgt := 13) hx hb dX9_fact_8 (by decide) (fun c3 => ?_) (fun c3 => ?_)
  · replace hm := ite_f c3 hm
    refine lv_iload_n hx hb dX9_fact_13 rfl (lv_at hl 2 rfl) ?_
    rcases Decidable.em (p_2 = (0 : Int32)) with c4 | c4
    · replace hm := ite_t c4 hm
      refine lv_tableIn (tgt := 40) hx hb dX9_fact_14 (by rw [c4]; decide) (by rw [c4]; decide) (by rw [c4]; rfl) (by decide) ?_
      refine lv_aload_n hx hb dX9_fact_40 rfl (lv_at hl 0 rfl) ?_
      refine va_get (D := (dC, dI)) (ci := 7) (v := .ref a_theCastle) (C := RX9) (T := TX9) (N := 11) hx hb hts iX9 hown hK hP 0 rfl rfl 2 (by decide) f28 (fun _ h9 => h9) rfl dX9_fact_41 ?_
      refine va_getN (D := (dC, dI)) (ci := 1) (v := .int v_theCastle_so) (C := RX1) (T := TX1) (N := 5) hx hb hts iX1 hown hK hP 1 rfl rfl 1 (by decide) f148 (fun _ h9 => h9) rfl dX9_fact_44 ?_
      refine lv_iload_n hx hb dX9_fact_47 rfl (lv_at hl 1 rfl) ?_
      refine lv_ishr hx hb dX9_fact_48 ?_
      refine lv_iconst (v := (1 : Int32)) hx hb dX9_fact_49 (by decide) ?_
      refine lv_iand hx hb dX9_fact_50 ?_
      obtain rfl := Option.some.inj hm
      subst hQ
      exact W.iret hx hb hr (fun t ht hW => ⟨⟨_, (), rfl, rfl, kb_h hP ht⟩, hS.F ht⟩) hS.2.2 dX9_fact_51
    replace hm := ite_f c4 hm
    rcases Decidable.em (p_2 = (1 : Int32)) with c5 | c5
    · replace hm := ite_t c5 hm
      refine lv_tableIn (tgt := 52) hx hb dX9_fact_14 (by rw [c5]; decide) (by rw [c5]; decide) (by rw [c5]; rfl) (by decide) ?_
      refine lv_aload_n hx hb dX9_fact_52 rfl (lv_at hl 0 rfl) ?_
      refine va_get (D := (dC, dI)) (ci := 7) (v := .ref a_theCastle) (C := RX9) (T := TX9) (N := 11) hx hb hts iX9 hown hK hP 0 rfl rfl 2 (by decide) f28 (fun _ h9 => h9) rfl dX9_fact_53 ?_
      refine va_getN (D := (dC, dI)) (ci := 1) (v := .int v_theCastle_common) (C := RX1) (T := TX1) (N := 5) hx hb hts iX1 hown hK hP 1 rfl rfl 2 (by decide) f151 (fun _ h9 => h9) rfl dX9_fact_56 ?_
      refine lv_iload_n hx hb dX9_fact_59 rfl (lv_at hl 1 rfl) ?_
      refine lv_ishr hx hb dX9_fact_60 ?_
      refine lv_iconst (v := (1 : Int32)) hx hb dX9_fact_61 (by decide) ?_
      refine lv_iand hx hb dX9_fact_62 ?_
      obtain rfl := Option.some.inj hm
      subst hQ
      exact W.iret hx hb hr (fun t ht hW => ⟨⟨_, (), rfl, rfl, kb_h hP ht⟩, hS.F ht⟩) hS.2.2 dX9_fact_63
    replace hm := ite_f c5 hm
    rcases Decidable.em (p_2 = (2 : Int32)) with c6 | c6
    · replace hm := ite_t c6 hm
      refine lv_tableIn (tgt := 64) hx hb dX9_fact_14 (by rw [c6]; decide) (by rw [c6]; decide) (by rw [c6]; rfl) (by decide) ?_
      refine lv_aload_n hx hb dX9_fact_64 rfl (lv_at hl 0 rfl) ?_
      refine lv_iload_n hx hb dX9_fact_65 rfl (lv_at hl 1 rfl) ?_
      obtain ⟨r7, ho8, hm⟩ := bd1_s hm
      refine kb_calli (Rv := r7) (va_runV (As := [.int p_1]) (rest := []) ⟨hx, hb, hml, hown, hts⟩ (c_X9_knownOfFact l dC dI cI cJ cZ cQ t H.size a_th a_now a_now_known q_theText q_theQuestion (.ref a_theCastle) q_theActs q_theTold q_foresight q_keptMoments q_isKept q_marchWorlds v_theSeed v_now_date v_now_trueDay v_now_wasAsked v_now_clothState v_now_cracks v_now_known p_1 (r7) ho8) (cwV 1 hts gX9_fact_X9_knownOfFact rfl rfl rfl (by decide +kernel) ⟨(Nat.le_of_ble_eq_true rfl), (Nat.le_of_ble_eq_true rfl)⟩) ⟨(kb_pre hK hG hP (kb_D hD rfl) hS hA [0, 2, 3] rfl (by decide)).1, (va_recv hK hP (ci := 7) (q0 := 0) rfl rfl), (kb_pre hK hG hP (kb_D hD rfl) hS hA [0, 2, 3] rfl (by decide)).2⟩ rfl rfl hl.1 rfl (lv_room (Nat.le_of_ble_eq_true rfl)) dX9_fact_66 ⟨Nat.zero_le _, Nat.zero_le _⟩) hP (kb_D hD rfl) hS hA [0, 2, 3] rfl [(true, 0), (false, 1), (true, 1), (true, 2)] (w2 := [oX9 a_th q_theText q_theQuestion (.ref a_theCastle) (.ref a_now) q_theActs q_theTold q_foresight q_keptMoments q_isKept q_marchWorlds (.long v_theSeed), oX1 a_theCastle (.int v_theCastle_facts) (.int v_theCastle_so) (.int v_theCastle_common) (.int v_theCastle_cases) (.int v_theCastle_firstTrueDay), oX4 a_now (.int v_now_date) (.int v_now_trueDay) (.int v_now_wasAsked) (.int v_now_clothState) (.int v_now_cracks) (.ref a_now_known), aI cI a_now_known 7 v_now_known]) rfl (by decide) (fun H locs hP hS => ?_)
      obtain rfl := Option.some.inj hm
      subst hQ
      exact W.iret hx hb hr (fun t ht hW => ⟨⟨_, (), rfl, rfl, kb_h hP ht⟩, hS.F ht⟩) hS.2.2 dX9_fact_69
    replace hm := ite_f c6 hm
    have tc4 := lv_neT (a := 0) c4 (by decide)
    have tc5 := lv_neT (a := 1) c5 (by decide)
    have tc6 := lv_neT (a := 2) c6 (by decide)
    refine lv_tableOut (tgt := 70) hx hb dX9_fact_14 (by omega) (by decide) ?_
    refine lv_bipush (v := (-2 : Int32)) hx hb dX9_fact_70 (by decide) ?_
    obtain rfl := Option.some.inj hm
    subst hQ
    exact W.iret hx hb hr (fun t ht hW => ⟨⟨_, (), rfl, rfl, kb_h hP ht⟩, hS.F ht⟩) hS.2.2 dX9_fact_72
  · replace hm := ite_t c3 hm
    refine lv_iconst (v := (-1 : Int32)) hx hb dX9_fact_11 (by decide) ?_
    obtain rfl := Option.some.inj hm
    subst hQ
    exact W.iret hx hb hr (fun t ht hW => ⟨⟨_, (), rfl, rfl, kb_h hP ht⟩, hS.F ht⟩) hS.2.2 dX9_fact_12
set_option maxHeartbeats 4000000 in
set_option maxRecDepth 100000 in
theorem c_X9_hasSlip (l : Launch) (dC : Nat → ClassId) (dI : Nat → Nat → Nat) (cI cJ cZ cQ : ClassId) (t sz : Nat) (a_th : Nat) (a_theQuestion : Nat) (a_theQuestion_letters : Nat) (a_theQuestion_letters_bytes : Nat) (a_theCastle : Nat) (n_theQuestion_letters_bytes : Nat) (q_theText : Value) (q_now : Value) (q_theActs : Value) (q_theTold : Value) (q_foresight : Value) (q_keptMoments : Value) (q_isKept : Value) (q_marchWorlds : Value) (q_theQuestion_stack : Value) (v_theSeed : Int64) (v_theQuestion_letters_length : Int32) (v_theQuestion_letters_bytes : (Nat → Int32)) (v_theCastle_facts : Int32) (v_theCastle_so : Int32) (v_theCastle_common : Int32) (v_theCastle_cases : Int32) (v_theCastle_firstTrueDay : Int32) (o : Int32) (hm : m_X9_hasSlip n_theQuestion_letters_bytes v_theQuestion_letters_length v_theQuestion_letters_bytes v_theCastle_facts = some o) : Met l yX9_hasSlip wsX9_hasSlip { frames := 3, cells := 0, slots := 0, locals := 67 } (va_Pc [.ref a_th] (cP (dC, dI) (kT cI cJ cZ cQ) t sz [oX9 a_th q_theText (.ref a_theQuestion) (.ref a_theCastle) q_now q_theActs q_theTold q_foresight q_keptMoments q_isKept q_marchWorlds (.long v_theSeed), oX5 a_theQuestion (.ref a_theQuestion_letters) q_theQuestion_stack, oX3 a_theQuestion_letters (.ref a_theQuestion_letters_bytes) (.int v_theQuestion_letters_length), aI cI a_theQuestion_letters_bytes n_theQuestion_letters_bytes v_theQuestion_letters_bytes, oX1 a_theCastle (.int v_theCastle_facts) (.int v_theCastle_so) (.int v_theCastle_common) (.int v_theCastle_cases) (.int v_theCastle_firstTrueDay)])) (cQi (dC, dI) (va_A [oX9 a_th q_theText (.ref a_theQuestion) (.ref a_theCastle) q_now q_theActs q_theTold q_foresight q_keptMoments q_isKept q_marchWorlds (.long v_theSeed), oX5 a_theQuestion (.ref a_theQuestion_letters) q_theQuestion_stack, oX3 a_theQuestion_letters (.ref a_theQuestion_letters_bytes) (.int v_theQuestion_letters_length), aI cI a_theQuestion_letters_bytes n_theQuestion_letters_bytes v_theQuestion_letters_bytes, oX1 a_theCastle (.int v_theCastle_facts) (.int v_theCastle_so) (.int v_theCastle_common) (.int v_theCastle_cases) (.int v_theCastle_firstTrueDay)] sz) o [oX9 a_th q_theText (.ref a_theQuestion) (.ref a_theCastle) q_now q_theActs q_theTold q_foresight q_keptMoments q_isKept q_marchWorlds (.long v_theSeed), oX5 a_theQuestion (.ref a_theQuestion_letters) q_theQuestion_stack, oX3 a_theQuestion_letters (.ref a_theQuestion_letters_bytes) (.int v_theQuestion_letters_length), aI cI a_theQuestion_letters_bytes n_theQuestion_letters_bytes v_theQuestion_letters_bytes, oX1 a_theCastle (.int v_theCastle_facts) (.int v_theCastle_so) (.int v_theCastle_common) (.int v_theCastle_cases) (.int v_theCastle_firstTrueDay)]) 0 0 (va_A [oX9 a_th q_theText (.ref a_theQuestion) (.ref a_theCastle) q_now q_theActs q_theTold q_foresight q_keptMoments q_isKept q_marchWorlds (.long v_theSeed), oX5 a_theQuestion (.ref a_theQuestion_letters) q_theQuestion_stack, oX3 a_theQuestion_letters (.ref a_theQuestion_letters_bytes) (.int v_theQuestion_letters_length), aI cI a_theQuestion_letters_bytes n_theQuestion_letters_bytes v_theQuestion_letters_bytes, oX1 a_theCastle (.int v_theCastle_facts) (.int v_theCastle_so) (.int v_theCastle_common) (.int v_theCastle_cases) (.int v_theCastle_firstTrueDay)] sz) := by
  refine Met.ofW (cc := cX9_hasSlip) (maxL := 1) (ret := (some .boolean)) (by decide) rfl ?_
  intro p e s m args below meth c s₁ B hml hv
  obtain ⟨rfl, hsz, hP, hK, hD0, hG⟩ := hv
  have hx := B.exec
  have hb := B.bytes
  have hr := B.returns
  have hts := atoms_spec (ws := wsX9_hasSlip) B.pre
  have hown : s.vm.findClass RX9 = some m.cls := findClass_of_methodNamed B.named
  have hlocks := B.notSynchronized
  subst hsz
  have hD := hD0.self (sz := s.heap.size)
  generalize hAe : va_A [oX9 a_th q_theText (.ref a_theQuestion) (.ref a_theCastle) q_now q_theActs q_theTold q_foresight q_keptMoments q_isKept q_marchWorlds (.long v_theSeed), oX5 a_theQuestion (.ref a_theQuestion_letters) q_theQuestion_stack, oX3 a_theQuestion_letters (.ref a_theQuestion_letters_bytes) (.int v_theQuestion_letters_length), aI cI a_theQuestion_letters_bytes n_theQuestion_letters_bytes v_theQuestion_letters_bytes, oX1 a_theCastle (.int v_theCastle_facts) (.int v_theCastle_so) (.int v_theCastle_common) (.int v_theCastle_cases) (.int v_theCastle_firstTrueDay)] s.heap.size = A at hD hG ⊢
  have hA : ∀ q : Nat, s.heap.size ≤ q → A q := fun q h => by rw [← hAe]; exact Or.inr h
  have hS : va_S A s.heap s.heap [] := va_S.rf
  have hl := lv_entry ([.ref a_th]) (n := 1) (Nat.le_of_ble_eq_true rfl)
  rw [lg_entry_eq]
  generalize (lg_sl ([.ref a_th]) ++ List.replicate (1 - (lg_sl ([.ref a_th])).length) Slot.unset).toArray = ls at hl ⊢
  have hl : lv_has ls 1 [(0, .ref a_th)] := hl
  have iX9 : ∀ w ∈ wsX90, w ∈ wsX9_hasSlip := fun _ h => List.mem_cons_of_mem _ (List.mem_append_left _ (List.mem_append_left _ (List.mem_append_left _ (List.mem_append_right _ h))))
  have iX5 : ∀ w ∈ wsX50, w ∈ wsX9_hasSlip := fun _ h => List.mem_cons_of_mem _ (List.mem_append_left _ (List.mem_append_left _ (List.mem_append_right _ h)))
  have iX3 : ∀ w ∈ wsX30, w ∈ wsX9_hasSlip := fun _ h => List.mem_cons_of_mem _ (List.mem_append_left _ (List.mem_append_right _ h))
  have iX1 : ∀ w ∈ wsX10, w ∈ wsX9_hasSlip := fun _ h => List.mem_cons_of_mem _ (List.mem_append_right _ h)
  have f21 := hts (.fieldLink RX9 21 "TrueOnceWeek" "theQuestion" "LTrueOnceWeek$Question;") (by decide +kernel)
  have f28 := hts (.fieldLink RX9 28 "TrueOnceWeek" "theCastle" "LTrueOnceWeek$Castle;") (by decide +kernel)
  refine kb_gen (fun Q hQ => ?_)
  unfold m_X9_hasSlip at hm
  refine lv_aload_n hx hb dX9_hasSlip_0 rfl (lv_at hl 0 rfl) ?_
  refine va_get (D := (dC, dI)) (ci := 7) (v := .ref a_theQuestion) (C := RX9) (T := TX9) (N := 11) hx hb hts iX9 hown hK hP 0 rfl rfl 1 (by decide) f21 (fun _ h9 => h9) rfl dX9_hasSlip_1 ?_
  refine lv_aload_n hx hb dX9_hasSlip_4 rfl (lv_at hl 0 rfl) ?_
  refine va_get (D := (dC, dI)) (ci := 7) (v := .ref a_theCastle) (C := RX9) (T := TX9) (N := 11) hx hb hts iX9 hown hK hP 0 rfl rfl 2 (by decide) f28 (fun _ h9 => h9) rfl dX9_hasSlip_5 ?_
  obtain ⟨r1, ho2, hm⟩ := bd1_s hm
  refine kb_calli (Rv := r1) (va_runV (As := [.ref a_theCastle]) (rest := []) ⟨hx, hb, hml, hown, hts⟩ (c_X5_firstFault l dC dI cI cJ cZ cQ t s.heap.size a_theQuestion a_theQuestion_letters a_theQuestion_letters_bytes a_theCastle n_theQuestion_letters_bytes q_theQuestion_stack v_theQuestion_letters_length v_theQuestion_letters_bytes v_theCastle_facts v_theCastle_so v_theCastle_common v_theCastle_cases v_theCastle_firstTrueDay (r1) ho2) (cwV 1 hts gX9_hasSlip_X5_firstFault rfl rfl rfl (by decide +kernel) ⟨(Nat.le_of_ble_eq_true rfl), (Nat.le_of_ble_eq_true rfl)⟩) ⟨(kb_pre hK hG hP (kb_D hD rfl) hS hA [1, 2, 3, 4] rfl (by decide)).1, (va_recv hK hP (ci := 5) (q0 := 1) rfl rfl), (kb_pre hK hG hP (kb_D hD rfl) hS hA [1, 2, 3, 4] rfl (by decide)).2⟩ rfl rfl hl.1 rfl (lv_room (Nat.le_of_ble_eq_true rfl)) dX9_hasSlip_8 ⟨Nat.zero_le _, Nat.zero_le _⟩) hP (kb_D hD rfl) hS hA [1, 2, 3, 4] rfl [(false, 0), (true, 0), (true, 1), (true, 2), (true, 3)] (w2 := [oX9 a_th q_theText (.ref a_theQuestion) (.ref a_theCastle) q_now q_theActs q_theTold q_foresight q_keptMoments q_isKept q_marchWorlds (.long v_theSeed), oX5 a_theQuestion (.ref a_theQuestion_letters) q_theQuestion_stack, oX3 a_theQuestion_letters (.ref a_theQuestion_letters_bytes) (.int v_theQuestion_letters_length), aI cI a_theQuestion_letters_bytes n_theQuestion_letters_bytes v_theQuestion_letters_bytes, oX1 a_theCastle (.int v_theCastle_facts) (.int v_theCastle_so) (.int v_theCastle_common) (.int v_theCastle_cases) (.int v_theCastle_firstTrueDay)]) rfl (by decide) (fun H locs hP hS => ?_)
  refine lv_bipush (v := (-9 : Int32)) hx hb dX9_hasSlip_11 (by decide) ?_
  refine lv_icmp_eq (tgt := 20) hx hb dX9_hasSlip_13 (by decide) (fun c3 => ?_) (fun c3 => ?_)
  · replace hm := ite_t c3 hm
    refine lv_iconst (v := (0 : Int32)) hx hb dX9_hasSlip_20 (by decide) ?_
    obtain rfl := Option.some.inj hm
    subst hQ
    exact W.zret hx hb hr rfl (fun t ht hW => ⟨⟨_, (), rfl, rfl, kb_h hP ht⟩, hS.F ht⟩) hS.2.2 dX9_hasSlip_21
  · replace hm := ite_f c3 hm
    refine lv_iconst (v := (1 : Int32)) hx hb dX9_hasSlip_16 (by decide) ?_
    refine lv_goto (tgt := 21) hx hb dX9_hasSlip_17 (by decide) ?_
    obtain rfl := Option.some.inj hm
    subst hQ
    exact W.zret hx hb hr rfl (fun t ht hW => ⟨⟨_, (), rfl, rfl, kb_h hP ht⟩, hS.F ht⟩) hS.2.2 dX9_hasSlip_21
set_option maxHeartbeats 4000000 in
set_option maxRecDepth 100000 in
theorem c_X4_canBeAsked (l : Launch) (dC : Nat → ClassId) (dI : Nat → Nat → Nat) (cI cJ cZ cQ : ClassId) (t sz : Nat) (a_th : Nat) (q_known : Value) (v_date : Int32) (v_trueDay : Int32) (v_wasAsked : Int32) (v_clothState : Int32) (v_cracks : Int32) (o : Int32) (hm : m_X4_canBeAsked v_wasAsked v_clothState v_cracks = some o) : Met l yX4_canBeAsked wsX4_canBeAsked { frames := 0, cells := 0, slots := 0, locals := 0 } (va_Pc [.ref a_th] (cP (dC, dI) (kT cI cJ cZ cQ) t sz [oX4 a_th (.int v_date) (.int v_trueDay) (.int v_wasAsked) (.int v_clothState) (.int v_cracks) q_known])) (cQi (dC, dI) (va_A [oX4 a_th (.int v_date) (.int v_trueDay) (.int v_wasAsked) (.int v_clothState) (.int v_cracks) q_known] sz) o [oX4 a_th (.int v_date) (.int v_trueDay) (.int v_wasAsked) (.int v_clothState) (.int v_cracks) q_known]) 0 0 (va_A [oX4 a_th (.int v_date) (.int v_trueDay) (.int v_wasAsked) (.int v_clothState) (.int v_cracks) q_known] sz) := by
  refine Met.ofW (cc := cX4_canBeAsked) (maxL := 1) (ret := (some .boolean)) (by decide) rfl ?_
  intro p e s m args below meth c s₁ B hml hv
  obtain ⟨rfl, hsz, hP, hK, hD0, hG⟩ := hv
  have hx := B.exec
  have hb := B.bytes
  have hr := B.returns
  have hts := atoms_spec (ws := wsX4_canBeAsked) B.pre
  have hown : s.vm.findClass RX4 = some m.cls := findClass_of_methodNamed B.named
  have hlocks := B.notSynchronized
  subst hsz
  have hD := hD0.self (sz := s.heap.size)
  generalize hAe : va_A [oX4 a_th (.int v_date) (.int v_trueDay) (.int v_wasAsked) (.int v_clothState) (.int v_cracks) q_known] s.heap.size = A at hD hG ⊢
  have hA : ∀ q : Nat, s.heap.size ≤ q → A q := fun q h => by rw [← hAe]; exact Or.inr h
  have hS : va_S A s.heap s.heap [] := va_S.rf
  have hl := lv_entry ([.ref a_th]) (n := 1) (Nat.le_of_ble_eq_true rfl)
  rw [lg_entry_eq]
  generalize (lg_sl ([.ref a_th]) ++ List.replicate (1 - (lg_sl ([.ref a_th])).length) Slot.unset).toArray = ls at hl ⊢
  have hl : lv_has ls 1 [(0, .ref a_th)] := hl
  have iX4 : ∀ w ∈ wsX40, w ∈ wsX4_canBeAsked := fun _ h => List.mem_cons_of_mem _ (List.mem_append_right _ h)
  have f22 := hts (.fieldLink RX4 22 "TrueOnceWeek$Moment" "wasAsked" "Z") (by decide +kernel)
  have f26 := hts (.fieldLink RX4 26 "TrueOnceWeek$Moment" "clothState" "I") (by decide +kernel)
  have f29 := hts (.fieldLink RX4 29 "TrueOnceWeek$Moment" "cracks" "I") (by decide +kernel)
  refine kb_gen (fun Q hQ => ?_)
  unfold m_X4_canBeAsked at hm
  refine lv_aload_n hx hb dX4_canBeAsked_0 rfl (lv_at hl 0 rfl) ?_
  refine va_get (D := (dC, dI)) (ci := 4) (v := .int v_wasAsked) (C := RX4) (T := TX4) (N := 6) hx hb hts iX4 hown hK hP 0 rfl rfl 2 (by decide) f22 (fun _ h9 => h9) rfl dX4_canBeAsked_1 ?_
  obtain ⟨k26, ek26, hm⟩ := nm_s hm
  have J26 : ∀ (H : Heap) (locs : List Loc) (ls : Array Slot), k26 = some o → va_P (dC, dI) vwCl [oX4 a_th (.int v_date) (.int v_trueDay) (.int v_wasAsked) (.int v_clothState) (.int v_cracks) q_known] H → va_S A s.heap H locs → lv_has ls 1 [] → W p l e (headSpec wsX4_canBeAsked { frames := 0, cells := 0, slots := 0, locals := 0 }).room s m [.ref a_th].toArray below meth c H locs 0 0 Q (F0 m 26 ls []) := by
    intro  H locs ls hm hP hS hl
    rw [ek26] at hm
    refine lv_iconst (v := (0 : Int32)) hx hb dX4_canBeAsked_26 (by decide) ?_
    obtain rfl := Option.some.inj hm
    subst hQ
    exact W.zret hx hb hr rfl (fun t ht hW => ⟨⟨_, (), rfl, rfl, kb_h hP ht⟩, hS.F ht⟩) hS.2.2 dX4_canBeAsked_27
  refine lv_if_ne (tgt := 26) hx hb dX4_canBeAsked_4 (by decide) (fun c1 => ?_) (fun c1 => ?_)
  · replace hm := ite_f c1 hm
    exact J26  _ _ _ hm hP hS (lv_sub hl [] rfl)
  · replace hm := ite_t c1 hm
    refine lv_aload_n hx hb dX4_canBeAsked_7 rfl (lv_at hl 0 rfl) ?_
    refine va_get (D := (dC, dI)) (ci := 4) (v := .int v_clothState) (C := RX4) (T := TX4) (N := 6) hx hb hts iX4 hown hK hP 0 rfl rfl 3 (by decide) f26 (fun _ h9 => h9) rfl dX4_canBeAsked_8 ?_
    refine lv_if_ne (tgt := 26) hx hb dX4_canBeAsked_11 (by decide) (fun c2 => ?_) (fun c2 => ?_)
    · replace hm := ite_f c2 hm
      exact J26  _ _ _ hm hP hS (lv_sub hl [] rfl)
    · replace hm := ite_t c2 hm
      refine lv_aload_n hx hb dX4_canBeAsked_14 rfl (lv_at hl 0 rfl) ?_
      refine va_get (D := (dC, dI)) (ci := 4) (v := .int v_cracks) (C := RX4) (T := TX4) (N := 6) hx hb hts iX4 hown hK hP 0 rfl rfl 4 (by decide) f29 (fun _ h9 => h9) rfl dX4_canBeAsked_15 ?_
      refine lv_iconst (v := (3 : Int32)) hx hb dX4_canBeAsked_18 (by decide) ?_
      refine lv_icmp_ge (tgt := 26) hx hb dX4_canBeAsked_19 (by decide) (fun c3 => ?_) (fun c3 => ?_)
      · replace hm := ite_t c3 hm
        exact J26  _ _ _ hm hP hS (lv_sub hl [] rfl)
      · replace hm := ite_f c3 hm
        refine lv_iconst (v := (1 : Int32)) hx hb dX4_canBeAsked_22 (by decide) ?_
        refine lv_goto (tgt := 27) hx hb dX4_canBeAsked_23 (by decide) ?_
        obtain rfl := Option.some.inj hm
        subst hQ
        exact W.zret hx hb hr rfl (fun t ht hW => ⟨⟨_, (), rfl, rfl, kb_h hP ht⟩, hS.F ht⟩) hS.2.2 dX4_canBeAsked_27
set_option maxHeartbeats 4000000 in
set_option maxRecDepth 100000 in
theorem c_X4_saveTo (l : Launch) (dC : Nat → ClassId) (dI : Nat → Nat → Nat) (cI cJ cZ cQ : ClassId) (t sz : Nat) (a_th : Nat) (a_p1 : Nat) (a_known : Nat) (n_p1 : Nat) (v_date : Int32) (v_trueDay : Int32) (v_wasAsked : Int32) (v_clothState : Int32) (v_cracks : Int32) (v_p1 : (Nat → Int32)) (v_known : (Nat → Int32)) (p_2 : Int32) (o : Nat → Int32) (hm : m_X4_saveTo p_2 n_p1 v_date v_trueDay v_wasAsked v_clothState v_cracks v_p1 v_known = some o) : Met l yX4_saveTo wsX4_saveTo { frames := 1, cells := 0, slots := 0, locals := 100 } (va_Pc [.ref a_th, .ref a_p1, .int p_2] (cP (dC, dI) (kT cI cJ cZ cQ) t sz [oX4 a_th (.int v_date) (.int v_trueDay) (.int v_wasAsked) (.int v_clothState) (.int v_cracks) (.ref a_known), aI cI a_p1 n_p1 v_p1, aI cI a_known 7 v_known])) (cQv (dC, dI) (va_A [oX4 a_th (.int v_date) (.int v_trueDay) (.int v_wasAsked) (.int v_clothState) (.int v_cracks) (.ref a_known), aI cI a_p1 n_p1 v_p1, aI cI a_known 7 v_known] sz) [oX4 a_th (.int v_date) (.int v_trueDay) (.int v_wasAsked) (.int v_clothState) (.int v_cracks) (.ref a_known), aI cI a_p1 n_p1 o, aI cI a_known 7 v_known]) 0 0 (va_A [oX4 a_th (.int v_date) (.int v_trueDay) (.int v_wasAsked) (.int v_clothState) (.int v_cracks) (.ref a_known), aI cI a_p1 n_p1 v_p1, aI cI a_known 7 v_known] sz) := by
  refine Met.ofW (cc := cX4_saveTo) (maxL := 4) (ret := none) (by decide) rfl ?_
  intro p e s m args below meth c s₁ B hml hv
  obtain ⟨rfl, hsz, hP, hK, hD0, hG⟩ := hv
  have hx := B.exec
  have hb := B.bytes
  have hr := B.returns
  have hts := atoms_spec (ws := wsX4_saveTo) B.pre
  have hown : s.vm.findClass RX4 = some m.cls := findClass_of_methodNamed B.named
  have hlocks := B.notSynchronized
  subst hsz
  have hD := hD0.self (sz := s.heap.size)
  generalize hAe : va_A [oX4 a_th (.int v_date) (.int v_trueDay) (.int v_wasAsked) (.int v_clothState) (.int v_cracks) (.ref a_known), aI cI a_p1 n_p1 v_p1, aI cI a_known 7 v_known] s.heap.size = A at hD hG ⊢
  have hA : ∀ q : Nat, s.heap.size ≤ q → A q := fun q h => by rw [← hAe]; exact Or.inr h
  have hS : va_S A s.heap s.heap [] := va_S.rf
  have hl := lv_entry ([.ref a_th, .ref a_p1, .int p_2]) (n := 4) (Nat.le_of_ble_eq_true rfl)
  rw [lg_entry_eq]
  generalize (lg_sl ([.ref a_th, .ref a_p1, .int p_2]) ++ List.replicate (4 - (lg_sl ([.ref a_th, .ref a_p1, .int p_2])).length) Slot.unset).toArray = ls at hl ⊢
  have hl : lv_has ls 4 [(0, .ref a_th), (1, .ref a_p1), (2, .int p_2)] := hl
  have iX4 : ∀ w ∈ wsX40, w ∈ wsX4_saveTo := fun _ h => List.mem_cons_of_mem _ (List.mem_append_right _ h)
  have f15 := hts (.fieldLink RX4 15 "TrueOnceWeek$Moment" "date" "I") (by decide +kernel)
  have f19 := hts (.fieldLink RX4 19 "TrueOnceWeek$Moment" "trueDay" "I") (by decide +kernel)
  have f22 := hts (.fieldLink RX4 22 "TrueOnceWeek$Moment" "wasAsked" "Z") (by decide +kernel)
  have f26 := hts (.fieldLink RX4 26 "TrueOnceWeek$Moment" "clothState" "I") (by decide +kernel)
  have f29 := hts (.fieldLink RX4 29 "TrueOnceWeek$Moment" "cracks" "I") (by decide +kernel)
  have f9 := hts (.fieldLink RX4 9 "TrueOnceWeek$Moment" "known" "[I") (by decide +kernel)
  have ml42 := hts (.methodLink RX4 42 arraycopyName) (by decide +kernel)
  have mn42 := hts (.native arraycopyName) (by decide +kernel)
  have ms42 := hts (.static arraycopyName) (by decide +kernel)
  have mi42 := hts (.initialized "java/lang/System") (by decide +kernel)
  refine kb_gen (fun Q hQ => ?_)
  unfold m_X4_saveTo at hm
  refine lv_iload_n hx hb dX4_saveTo_0 rfl (lv_at hl 2 rfl) ?_
  refine lv_bipush (v := (12 : Int32)) hx hb dX4_saveTo_1 (by decide) ?_
  refine lv_imul hx hb dX4_saveTo_3 ?_
  refine lv_topi (fun x1 ex1 => ?_)
  replace hm := nm_t ex1 hm
  refine lv_istore_n (lv' := [(3, .int x1), (0, .ref a_th), (1, .ref a_p1), (2, .int p_2)]) hx hb dX4_saveTo_4 rfl hl (by decide) rfl (fun ls hl => ?_)
  refine lv_iload_n hx hb dX4_saveTo_5 rfl (lv_at hl 0 rfl) ?_
  refine lv_if_lt (tgt := 18) hx hb dX4_saveTo_6 (by decide) (fun c2 => ?_) (fun c2 => ?_)
  · replace hm := ite_t c2 hm
    obtain rfl := Option.some.inj hm
    subst hQ
    exact W.vret hx hb hr (fun t ht hW => ⟨⟨(), rfl, trivial, kb_h hP ht⟩, hS.F ht⟩) hS.2.2 dX4_saveTo_18
  · replace hm := ite_f c2 hm
    refine lv_iload_n hx hb dX4_saveTo_9 rfl (lv_at hl 0 rfl) ?_
    refine lv_bipush (v := (12 : Int32)) hx hb dX4_saveTo_10 (by decide) ?_
    refine lv_iadd hx hb dX4_saveTo_12 ?_
    refine lv_aload_n hx hb dX4_saveTo_13 rfl (lv_at hl 2 rfl) ?_
    refine va_alen (v := (Int32.ofNat n_p1)) hx hb hK hP 1 0 rfl rfl rfl dX4_saveTo_14 ?_
    refine lv_icmp_le (tgt := 19) hx hb dX4_saveTo_15 (by decide) (fun c3 => ?_) (fun c3 => ?_)
    · replace hm := ite_t c3 hm
      refine lv_aload_n hx hb dX4_saveTo_19 rfl (lv_at hl 2 rfl) ?_
      refine lv_iload_n hx hb dX4_saveTo_20 rfl (lv_at hl 0 rfl) ?_
      refine lv_aload_n hx hb dX4_saveTo_21 rfl (lv_at hl 1 rfl) ?_
      refine va_get (D := (dC, dI)) (ci := 4) (v := .int v_date) (C := RX4) (T := TX4) (N := 6) hx hb hts iX4 hown hK hP 0 rfl rfl 0 (by decide) f15 (fun _ h9 => h9) rfl dX4_saveTo_22 ?_
      obtain ⟨h4, hm⟩ := gd_s hm
      refine va_iast hx hb hK hP (kb_D hD rfl) hS 1 0 rfl rfl (inB_s h4) dX4_saveTo_25 (fun H locs hP _ hS => ?_)
      have hP : va_P (dC, dI) vwCl [oX4 a_th (.int v_date) (.int v_trueDay) (.int v_wasAsked) (.int v_clothState) (.int v_cracks) (.ref a_known), aI cI a_p1 n_p1 (upd v_p1 (Int32.toNatClampNeg x1) v_date), aI cI a_known 7 v_known] H := hP
      refine lv_aload_n hx hb dX4_saveTo_26 rfl (lv_at hl 2 rfl) ?_
      refine lv_iload_n hx hb dX4_saveTo_27 rfl (lv_at hl 0 rfl) ?_
      refine lv_iconst (v := (1 : Int32)) hx hb dX4_saveTo_28 (by decide) ?_
      refine lv_iadd hx hb dX4_saveTo_29 ?_
      refine lv_aload_n hx hb dX4_saveTo_30 rfl (lv_at hl 1 rfl) ?_
      refine va_get (D := (dC, dI)) (ci := 4) (v := .int v_trueDay) (C := RX4) (T := TX4) (N := 6) hx hb hts iX4 hown hK hP 0 rfl rfl 1 (by decide) f19 (fun _ h9 => h9) rfl dX4_saveTo_31 ?_
      obtain ⟨h5, hm⟩ := gd_s hm
      refine va_iast hx hb hK hP (kb_D hD rfl) hS 1 0 rfl rfl (inB_s h5) dX4_saveTo_34 (fun H locs hP _ hS => ?_)
      have hP : va_P (dC, dI) vwCl [oX4 a_th (.int v_date) (.int v_trueDay) (.int v_wasAsked) (.int v_clothState) (.int v_cracks) (.ref a_known), aI cI a_p1 n_p1 (upd (upd v_p1 (Int32.toNatClampNeg x1) v_date) (Int32.toNatClampNeg (x1 + (1 : Int32))) v_trueDay), aI cI a_known 7 v_known] H := hP
      refine lv_aload_n hx hb dX4_saveTo_35 rfl (lv_at hl 2 rfl) ?_
      refine lv_iload_n hx hb dX4_saveTo_36 rfl (lv_at hl 0 rfl) ?_
      refine lv_iconst (v := (2 : Int32)) hx hb dX4_saveTo_37 (by decide) ?_
      refine lv_iadd hx hb dX4_saveTo_38 ?_
      refine lv_aload_n hx hb dX4_saveTo_39 rfl (lv_at hl 1 rfl) ?_
      refine va_get (D := (dC, dI)) (ci := 4) (v := .int v_wasAsked) (C := RX4) (T := TX4) (N := 6) hx hb hts iX4 hown hK hP 0 rfl rfl 2 (by decide) f22 (fun _ h9 => h9) rfl dX4_saveTo_40 ?_
      obtain ⟨k51, ek51, hm⟩ := nm_s hm
      have J51 : ∀ (x6 : Int32) (H : Heap) (locs : List Loc) (ls : Array Slot), k51 x6 = some o → va_P (dC, dI) vwCl [oX4 a_th (.int v_date) (.int v_trueDay) (.int v_wasAsked) (.int v_clothState) (.int v_cracks) (.ref a_known), aI cI a_p1 n_p1 (upd (upd v_p1 (Int32.toNatClampNeg x1) v_date) (Int32.toNatClampNeg (x1 + (1 : Int32))) v_trueDay), aI cI a_known 7 v_known] H → va_S A s.heap H locs → lv_has ls 4 [(0, .ref a_th), (1, .ref a_p1), (3, .int x1)] → W p l e (headSpec wsX4_saveTo { frames := 1, cells := 0, slots := 0, locals := 100 }).room s m [.ref a_th, .ref a_p1, .int p_2].toArray below meth c H locs 0 0 Q (F0 m 51 ls [.int x6, .int (x1 + (2 : Int32)), .ref a_p1]) := by
        intro x6 H locs ls hm hP hS hl
        rw [ek51] at hm
        obtain ⟨h7, hm⟩ := gd_s hm
        refine va_iast hx hb hK hP (kb_D hD rfl) hS 1 0 rfl rfl (inB_s h7) dX4_saveTo_51 (fun H locs hP _ hS => ?_)
        have hP : va_P (dC, dI) vwCl [oX4 a_th (.int v_date) (.int v_trueDay) (.int v_wasAsked) (.int v_clothState) (.int v_cracks) (.ref a_known), aI cI a_p1 n_p1 (upd (upd (upd v_p1 (Int32.toNatClampNeg x1) v_date) (Int32.toNatClampNeg (x1 + (1 : Int32))) v_trueDay) (Int32.toNatClampNeg (x1 + (2 : Int32))) x6), aI cI a_known 7 v_known] H := hP
        refine lv_aload_n hx hb dX4_saveTo_52 rfl (lv_at hl 1 rfl) ?_
        refine lv_iload_n hx hb dX4_saveTo_53 rfl (lv_at hl 2 rfl) ?_
        refine lv_iconst (v := (3 : Int32)) hx hb dX4_saveTo_54 (by decide) ?_
        refine lv_iadd hx hb dX4_saveTo_55 ?_
        refine lv_aload_n hx hb dX4_saveTo_56 rfl (lv_at hl 0 rfl) ?_
        refine va_get (D := (dC, dI)) (ci := 4) (v := .int v_clothState) (C := RX4) (T := TX4) (N := 6) hx hb hts iX4 hown hK hP 0 rfl rfl 3 (by decide) f26 (fun _ h9 => h9) rfl dX4_saveTo_57 ?_
        obtain ⟨h8, hm⟩ := gd_s hm
        refine va_iast hx hb hK hP (kb_D hD rfl) hS 1 0 rfl rfl (inB_s h8) dX4_saveTo_60 (fun H locs hP _ hS => ?_)
        have hP : va_P (dC, dI) vwCl [oX4 a_th (.int v_date) (.int v_trueDay) (.int v_wasAsked) (.int v_clothState) (.int v_cracks) (.ref a_known), aI cI a_p1 n_p1 (upd (upd (upd (upd v_p1 (Int32.toNatClampNeg x1) v_date) (Int32.toNatClampNeg (x1 + (1 : Int32))) v_trueDay) (Int32.toNatClampNeg (x1 + (2 : Int32))) x6) (Int32.toNatClampNeg (x1 + (3 : Int32))) v_clothState), aI cI a_known 7 v_known] H := hP
        refine lv_aload_n hx hb dX4_saveTo_61 rfl (lv_at hl 1 rfl) ?_
        refine lv_iload_n hx hb dX4_saveTo_62 rfl (lv_at hl 2 rfl) ?_
        refine lv_iconst (v := (4 : Int32)) hx hb dX4_saveTo_63 (by decide) ?_
        refine lv_iadd hx hb dX4_saveTo_64 ?_
        refine lv_aload_n hx hb dX4_saveTo_65 rfl (lv_at hl 0 rfl) ?_
        refine va_get (D := (dC, dI)) (ci := 4) (v := .int v_cracks) (C := RX4) (T := TX4) (N := 6) hx hb hts iX4 hown hK hP 0 rfl rfl 4 (by decide) f29 (fun _ h9 => h9) rfl dX4_saveTo_66 ?_
        obtain ⟨h9, hm⟩ := gd_s hm
        refine va_iast hx hb hK hP (kb_D hD rfl) hS 1 0 rfl rfl (inB_s h9) dX4_saveTo_69 (fun H locs hP _ hS => ?_)
        have hP : va_P (dC, dI) vwCl [oX4 a_th (.int v_date) (.int v_trueDay) (.int v_wasAsked) (.int v_clothState) (.int v_cracks) (.ref a_known), aI cI a_p1 n_p1 (upd (upd (upd (upd (upd v_p1 (Int32.toNatClampNeg x1) v_date) (Int32.toNatClampNeg (x1 + (1 : Int32))) v_trueDay) (Int32.toNatClampNeg (x1 + (2 : Int32))) x6) (Int32.toNatClampNeg (x1 + (3 : Int32))) v_clothState) (Int32.toNatClampNeg (x1 + (4 : Int32))) v_cracks), aI cI a_known 7 v_known] H := hP
        refine lv_aload_n hx hb dX4_saveTo_70 rfl (lv_at hl 0 rfl) ?_
        refine va_get (D := (dC, dI)) (ci := 4) (v := .ref a_known) (C := RX4) (T := TX4) (N := 6) hx hb hts iX4 hown hK hP 0 rfl rfl 5 (by decide) f9 (fun _ h9 => h9) rfl dX4_saveTo_71 ?_
        refine lv_iconst (v := (0 : Int32)) hx hb dX4_saveTo_74 (by decide) ?_
        refine lv_aload_n hx hb dX4_saveTo_75 rfl (lv_at hl 1 rfl) ?_
        refine lv_iload_n hx hb dX4_saveTo_76 rfl (lv_at hl 2 rfl) ?_
        refine lv_iconst (v := (5 : Int32)) hx hb dX4_saveTo_77 (by decide) ?_
        refine lv_iadd hx hb dX4_saveTo_78 ?_
        refine lv_bipush (v := (7 : Int32)) hx hb dX4_saveTo_79 (by decide) ?_
        obtain ⟨h10, hm⟩ := gd_s hm
        obtain ⟨hc1, hc2, hc3, hc4, hc5⟩ := cpB_s h10
        refine va_copyi (ty := .int) hx hb (by rw [hml]; exact hl.1.symm) hown ml42 mn42 ms42 mi42 hK hP (kb_D hD rfl) hS 2 1 0 0 rfl rfl rfl rfl rfl hc1 hc2 hc3 hc4 hc5 (fun _ _ => rfl) (Nat.le_of_ble_eq_true rfl) (Nat.le_of_ble_eq_true rfl) dX4_saveTo_81 (fun H locs hP _ hS => ?_)
        have hP : va_P (dC, dI) vwCl [oX4 a_th (.int v_date) (.int v_trueDay) (.int v_wasAsked) (.int v_clothState) (.int v_cracks) (.ref a_known), aI cI a_p1 n_p1 (va_cpy v_known (upd (upd (upd (upd (upd v_p1 (Int32.toNatClampNeg x1) v_date) (Int32.toNatClampNeg (x1 + (1 : Int32))) v_trueDay) (Int32.toNatClampNeg (x1 + (2 : Int32))) x6) (Int32.toNatClampNeg (x1 + (3 : Int32))) v_clothState) (Int32.toNatClampNeg (x1 + (4 : Int32))) v_cracks) (Int32.toNatClampNeg (0 : Int32)) (Int32.toNatClampNeg (x1 + (5 : Int32))) (Int32.toNatClampNeg (7 : Int32))), aI cI a_known 7 v_known] H := hP
        obtain rfl := Option.some.inj hm
        subst hQ
        exact W.vret hx hb hr (fun t ht hW => ⟨⟨(), rfl, trivial, kb_h hP ht⟩, hS.F ht⟩) hS.2.2 dX4_saveTo_84
      refine lv_if_eq (tgt := 50) hx hb dX4_saveTo_43 (by decide) (fun c11 => ?_) (fun c11 => ?_)
      · replace hm := ite_t c11 hm
        refine lv_iconst (v := (0 : Int32)) hx hb dX4_saveTo_50 (by decide) ?_
        exact J51 (0 : Int32) _ _ _ hm hP hS (lv_sub hl [1, 2, 0] rfl)
      · replace hm := ite_f c11 hm
        refine lv_iconst (v := (1 : Int32)) hx hb dX4_saveTo_46 (by decide) ?_
        refine lv_goto (tgt := 51) hx hb dX4_saveTo_47 (by decide) ?_
        exact J51 (1 : Int32) _ _ _ hm hP hS (lv_sub hl [1, 2, 0] rfl)
    · replace hm := ite_f c3 hm
      obtain rfl := Option.some.inj hm
      subst hQ
      exact W.vret hx hb hr (fun t ht hW => ⟨⟨(), rfl, trivial, kb_h hP ht⟩, hS.F ht⟩) hS.2.2 dX4_saveTo_18
set_option maxHeartbeats 4000000 in
set_option maxRecDepth 100000 in
theorem c_X0_remember (l : Launch) (dC : Nat → ClassId) (dI : Nat → Nat → Nat) (cI cJ cZ cQ : ClassId) (t sz : Nat) (a_th : Nat) (a_p1 : Nat) (a_moments : Nat) (a_p1_known : Nat) (a_seeds : Nat) (v_next : Int32) (v_count : Int32) (v_p1_date : Int32) (v_p1_trueDay : Int32) (v_p1_wasAsked : Int32) (v_p1_clothState : Int32) (v_p1_cracks : Int32) (v_moments : (Nat → Int32)) (v_p1_known : (Nat → Int32)) (v_seeds : (Nat → Int64)) (p_2 : Int64) (o : Int32 × Int32 × (Nat → Int32) × (Nat → Int64)) (hm : m_X0_remember p_2 v_next v_count v_p1_date v_p1_trueDay v_p1_wasAsked v_p1_clothState v_p1_cracks v_moments v_p1_known v_seeds = some o) : Met l yX0_remember wsX0_remember { frames := 2, cells := 0, slots := 0, locals := 123 } (va_Pc [.ref a_th, .ref a_p1, .long p_2] (cP (dC, dI) (kT cI cJ cZ cQ) t sz [oX0 a_th (.ref a_moments) (.ref a_seeds) (.int v_next) (.int v_count), oX4 a_p1 (.int v_p1_date) (.int v_p1_trueDay) (.int v_p1_wasAsked) (.int v_p1_clothState) (.int v_p1_cracks) (.ref a_p1_known), aI cI a_moments 120 v_moments, aI cI a_p1_known 7 v_p1_known, aJ cJ a_seeds 10 v_seeds])) (cQv (dC, dI) (va_A [oX0 a_th (.ref a_moments) (.ref a_seeds) (.int v_next) (.int v_count), oX4 a_p1 (.int v_p1_date) (.int v_p1_trueDay) (.int v_p1_wasAsked) (.int v_p1_clothState) (.int v_p1_cracks) (.ref a_p1_known), aI cI a_moments 120 v_moments, aI cI a_p1_known 7 v_p1_known, aJ cJ a_seeds 10 v_seeds] sz) [oX0 a_th (.ref a_moments) (.ref a_seeds) (.int (o.1)) (.int (o.2.1)), oX4 a_p1 (.int v_p1_date) (.int v_p1_trueDay) (.int v_p1_wasAsked) (.int v_p1_clothState) (.int v_p1_cracks) (.ref a_p1_known), aI cI a_moments 120 (o.2.2.1), aI cI a_p1_known 7 v_p1_known, aJ cJ a_seeds 10 (o.2.2.2)]) 0 0 (va_A [oX0 a_th (.ref a_moments) (.ref a_seeds) (.int v_next) (.int v_count), oX4 a_p1 (.int v_p1_date) (.int v_p1_trueDay) (.int v_p1_wasAsked) (.int v_p1_clothState) (.int v_p1_cracks) (.ref a_p1_known), aI cI a_moments 120 v_moments, aI cI a_p1_known 7 v_p1_known, aJ cJ a_seeds 10 v_seeds] sz) := by
  refine Met.ofW (cc := cX0_remember) (maxL := 4) (ret := none) (by decide) rfl ?_
  intro p e s m args below meth c s₁ B hml hv
  obtain ⟨rfl, hsz, hP, hK, hD0, hG⟩ := hv
  have hx := B.exec
  have hb := B.bytes
  have hr := B.returns
  have hts := atoms_spec (ws := wsX0_remember) B.pre
  have hown : s.vm.findClass RX0 = some m.cls := findClass_of_methodNamed B.named
  have hlocks := B.notSynchronized
  subst hsz
  have hD := hD0.self (sz := s.heap.size)
  generalize hAe : va_A [oX0 a_th (.ref a_moments) (.ref a_seeds) (.int v_next) (.int v_count), oX4 a_p1 (.int v_p1_date) (.int v_p1_trueDay) (.int v_p1_wasAsked) (.int v_p1_clothState) (.int v_p1_cracks) (.ref a_p1_known), aI cI a_moments 120 v_moments, aI cI a_p1_known 7 v_p1_known, aJ cJ a_seeds 10 v_seeds] s.heap.size = A at hD hG ⊢
  have hA : ∀ q : Nat, s.heap.size ≤ q → A q := fun q h => by rw [← hAe]; exact Or.inr h
  have hS : va_S A s.heap s.heap [] := va_S.rf
  have hl := lv_entry ([.ref a_th, .ref a_p1, .long p_2]) (n := 4) (Nat.le_of_ble_eq_true rfl)
  rw [lg_entry_eq]
  generalize (lg_sl ([.ref a_th, .ref a_p1, .long p_2]) ++ List.replicate (4 - (lg_sl ([.ref a_th, .ref a_p1, .long p_2])).length) Slot.unset).toArray = ls at hl ⊢
  have hl : lv_has ls 4 [(0, .ref a_th), (1, .ref a_p1), (2, .long p_2)] := hl
  have iX0 : ∀ w ∈ wsX00, w ∈ wsX0_remember := fun _ h => List.mem_cons_of_mem _ (List.mem_append_left _ (List.mem_append_right _ h))
  have iX4 : ∀ w ∈ wsX40, w ∈ wsX0_remember := fun _ h => List.mem_cons_of_mem _ (List.mem_append_right _ h)
  have f11 := hts (.fieldLink RX0 11 "TrueOnceWeek$Acts" "moments" "[I") (by decide +kernel)
  have f21 := hts (.fieldLink RX0 21 "TrueOnceWeek$Acts" "next" "I") (by decide +kernel)
  have f17 := hts (.fieldLink RX0 17 "TrueOnceWeek$Acts" "seeds" "[J") (by decide +kernel)
  have f29 := hts (.fieldLink RX0 29 "TrueOnceWeek$Acts" "count" "I") (by decide +kernel)
  have ml32 := hts (.methodLink RX0 32 Lib.Math.min.name) (by decide +kernel)
  have ms32 := hts (.static Lib.Math.min.name) (by decide +kernel)
  have mi32 := hts (.initialized "java/lang/Math") (by decide +kernel)
  have mc32 := hts (.code Lib.Math.min.name Lib.Math.min.code 2 (some .int)) (by decide +kernel)
  refine kb_gen (fun Q hQ => ?_)
  unfold m_X0_remember at hm
  refine lv_aload_n hx hb dX0_remember_0 rfl (lv_at hl 1 rfl) ?_
  refine lv_aload_n hx hb dX0_remember_1 rfl (lv_at hl 0 rfl) ?_
  refine va_get (D := (dC, dI)) (ci := 0) (v := .ref a_moments) (C := RX0) (T := TX0) (N := 4) hx hb hts iX0 hown hK hP 0 rfl rfl 0 (by decide) f11 (fun _ h9 => h9) rfl dX0_remember_2 ?_
  refine lv_aload_n hx hb dX0_remember_5 rfl (lv_at hl 0 rfl) ?_
  refine va_get (D := (dC, dI)) (ci := 0) (v := .int v_next) (C := RX0) (T := TX0) (N := 4) hx hb hts iX0 hown hK hP 0 rfl rfl 2 (by decide) f21 (fun _ h9 => h9) rfl dX0_remember_6 ?_
  obtain ⟨w1, ho2, hm⟩ := bd1_s hm
  refine kb_callv (va_runV (As := [.ref a_moments, .int v_next]) (rest := []) ⟨hx, hb, hml, hown, hts⟩ (c_X4_saveTo l dC dI cI cJ cZ cQ t s.heap.size a_p1 a_moments a_p1_known 120 v_p1_date v_p1_trueDay v_p1_wasAsked v_p1_clothState v_p1_cracks v_moments v_p1_known v_next (w1) ho2) (cwV 2 hts gX0_remember_X4_saveTo rfl rfl rfl (by decide +kernel) ⟨(Nat.le_of_ble_eq_true rfl), (Nat.le_of_ble_eq_true rfl)⟩) ⟨(kb_pre hK hG hP (kb_D hD rfl) hS hA [1, 2, 3] rfl (by decide)).1, (va_recv hK hP (ci := 4) (q0 := 1) rfl rfl), (kb_pre hK hG hP (kb_D hD rfl) hS hA [1, 2, 3] rfl (by decide)).2⟩ rfl rfl hl.1 rfl (lv_room (Nat.le_of_ble_eq_true rfl)) dX0_remember_9 ⟨Nat.zero_le _, Nat.zero_le _⟩) hP (kb_D hD rfl) hS hA [1, 2, 3] rfl [(false, 0), (true, 0), (true, 1), (true, 2), (false, 4)] (w2 := [oX0 a_th (.ref a_moments) (.ref a_seeds) (.int v_next) (.int v_count), oX4 a_p1 (.int v_p1_date) (.int v_p1_trueDay) (.int v_p1_wasAsked) (.int v_p1_clothState) (.int v_p1_cracks) (.ref a_p1_known), aI cI a_moments 120 w1, aI cI a_p1_known 7 v_p1_known, aJ cJ a_seeds 10 v_seeds]) rfl (by decide) (fun H locs hP hS => ?_)
  refine lv_aload_n hx hb dX0_remember_12 rfl (lv_at hl 0 rfl) ?_
  refine va_get (D := (dC, dI)) (ci := 0) (v := .ref a_seeds) (C := RX0) (T := TX0) (N := 4) hx hb hts iX0 hown hK hP 0 rfl rfl 1 (by decide) f17 (fun _ h9 => h9) rfl dX0_remember_13 ?_
  refine lv_aload_n hx hb dX0_remember_16 rfl (lv_at hl 0 rfl) ?_
  refine va_get (D := (dC, dI)) (ci := 0) (v := .int v_next) (C := RX0) (T := TX0) (N := 4) hx hb hts iX0 hown hK hP 0 rfl rfl 2 (by decide) f21 (fun _ h9 => h9) rfl dX0_remember_17 ?_
  refine lv_lload_n hx hb dX0_remember_20 rfl (lv_at hl 2 rfl) ?_
  obtain ⟨h3, hm⟩ := gd_s hm
  refine va_last hx hb hK hP (kb_D hD rfl) hS 4 1 rfl rfl (inB_s h3) dX0_remember_21 (fun H locs hP _ hS => ?_)
  have hP : va_P (dC, dI) vwCl [oX0 a_th (.ref a_moments) (.ref a_seeds) (.int v_next) (.int v_count), oX4 a_p1 (.int v_p1_date) (.int v_p1_trueDay) (.int v_p1_wasAsked) (.int v_p1_clothState) (.int v_p1_cracks) (.ref a_p1_known), aI cI a_moments 120 w1, aI cI a_p1_known 7 v_p1_known, aJ cJ a_seeds 10 (vp_updL v_seeds (Int32.toNatClampNeg v_next) p_2)] H := hP
  refine lv_aload_n hx hb dX0_remember_22 rfl (lv_at hl 0 rfl) ?_
  refine lv_aload_n hx hb dX0_remember_23 rfl (lv_at hl 0 rfl) ?_
  refine va_get (D := (dC, dI)) (ci := 0) (v := .int v_next) (C := RX0) (T := TX0) (N := 4) hx hb hts iX0 hown hK hP 0 rfl rfl 2 (by decide) f21 (fun _ h9 => h9) rfl dX0_remember_24 ?_
  refine lv_iconst (v := (1 : Int32)) hx hb dX0_remember_27 (by decide) ?_
  refine lv_iadd hx hb dX0_remember_28 ?_
  refine lv_bipush (v := (10 : Int32)) hx hb dX0_remember_29 (by decide) ?_
  refine lv_irem hx hb dX0_remember_31 (by decide) ?_
  refine lv_topi (fun x4 ex4 => ?_)
  replace hm := nm_t ex4 hm
  refine va_put (D := (dC, dI)) (ci := 0) (v := .int x4) (ty := .int) (C := RX0) (T := TX0) (N := 4) hx hb hts iX0 tyX0 tyX0_ok nmX0 hown hK hP (kb_D hD rfl) hS 0 rfl rfl 2 (by decide) f21 (fun _ h9 => h9) rfl (by decide +kernel) rfl rfl (Nat.le_of_ble_eq_true rfl) dX0_remember_32 (fun H locs hP _ hS => ?_)
  have hP : va_P (dC, dI) vwCl [oX0 a_th (.ref a_moments) (.ref a_seeds) (.int x4) (.int v_count), oX4 a_p1 (.int v_p1_date) (.int v_p1_trueDay) (.int v_p1_wasAsked) (.int v_p1_clothState) (.int v_p1_cracks) (.ref a_p1_known), aI cI a_moments 120 w1, aI cI a_p1_known 7 v_p1_known, aJ cJ a_seeds 10 (vp_updL v_seeds (Int32.toNatClampNeg v_next) p_2)] H := hP
  refine lv_aload_n hx hb dX0_remember_35 rfl (lv_at hl 0 rfl) ?_
  refine lv_bipush (v := (10 : Int32)) hx hb dX0_remember_36 (by decide) ?_
  refine lv_aload_n hx hb dX0_remember_38 rfl (lv_at hl 0 rfl) ?_
  refine va_get (D := (dC, dI)) (ci := 0) (v := .int v_count) (C := RX0) (T := TX0) (N := 4) hx hb hts iX0 hown hK hP 0 rfl rfl 3 (by decide) f29 (fun _ h9 => h9) rfl dX0_remember_39 ?_
  refine lv_iconst (v := (1 : Int32)) hx hb dX0_remember_42 (by decide) ?_
  refine lv_iadd hx hb dX0_remember_43 ?_
  refine va_mmin hx hb (by rw [hml]; exact hl.1.symm) hown ml32 ms32 mi32 mc32 (Nat.le_of_ble_eq_true rfl) (Nat.le_of_ble_eq_true rfl) (Nat.zero_le _) (Nat.zero_le _) dX0_remember_44 ?_
  refine lv_topi (fun x5 ex5 => ?_)
  replace hm := nm_t ex5 hm
  refine va_put (D := (dC, dI)) (ci := 0) (v := .int x5) (ty := .int) (C := RX0) (T := TX0) (N := 4) hx hb hts iX0 tyX0 tyX0_ok nmX0 hown hK hP (kb_D hD rfl) hS 0 rfl rfl 3 (by decide) f29 (fun _ h9 => h9) rfl (by decide +kernel) rfl rfl (Nat.le_of_ble_eq_true rfl) dX0_remember_47 (fun H locs hP _ hS => ?_)
  have hP : va_P (dC, dI) vwCl [oX0 a_th (.ref a_moments) (.ref a_seeds) (.int x4) (.int x5), oX4 a_p1 (.int v_p1_date) (.int v_p1_trueDay) (.int v_p1_wasAsked) (.int v_p1_clothState) (.int v_p1_cracks) (.ref a_p1_known), aI cI a_moments 120 w1, aI cI a_p1_known 7 v_p1_known, aJ cJ a_seeds 10 (vp_updL v_seeds (Int32.toNatClampNeg v_next) p_2)] H := hP
  obtain rfl := Option.some.inj hm
  subst hQ
  exact W.vret hx hb hr (fun t ht hW => ⟨⟨(), rfl, trivial, kb_h hP ht⟩, hS.F ht⟩) hS.2.2 dX0_remember_50
set_option maxHeartbeats 4000000 in
set_option maxRecDepth 100000 in
theorem c_X4_weekday (l : Launch) (dC : Nat → ClassId) (dI : Nat → Nat → Nat) (cI cJ cZ cQ : ClassId) (t sz : Nat) (a_th : Nat) (q_known : Value) (v_date : Int32) (v_trueDay : Int32) (v_wasAsked : Int32) (v_clothState : Int32) (v_cracks : Int32) (o : Int32) (hm : m_X4_weekday v_date = some o) : Met l yX4_weekday wsX4_weekday { frames := 0, cells := 0, slots := 0, locals := 0 } (va_Pc [.ref a_th] (cP (dC, dI) (kT cI cJ cZ cQ) t sz [oX4 a_th (.int v_date) (.int v_trueDay) (.int v_wasAsked) (.int v_clothState) (.int v_cracks) q_known])) (cQi (dC, dI) (va_A [oX4 a_th (.int v_date) (.int v_trueDay) (.int v_wasAsked) (.int v_clothState) (.int v_cracks) q_known] sz) o [oX4 a_th (.int v_date) (.int v_trueDay) (.int v_wasAsked) (.int v_clothState) (.int v_cracks) q_known]) 0 0 (va_A [oX4 a_th (.int v_date) (.int v_trueDay) (.int v_wasAsked) (.int v_clothState) (.int v_cracks) q_known] sz) := by
  refine Met.ofW (cc := cX4_weekday) (maxL := 1) (ret := (some .int)) (by decide) rfl ?_
  intro p e s m args below meth c s₁ B hml hv
  obtain ⟨rfl, hsz, hP, hK, hD0, hG⟩ := hv
  have hx := B.exec
  have hb := B.bytes
  have hr := B.returns
  have hts := atoms_spec (ws := wsX4_weekday) B.pre
  have hown : s.vm.findClass RX4 = some m.cls := findClass_of_methodNamed B.named
  have hlocks := B.notSynchronized
  subst hsz
  have hD := hD0.self (sz := s.heap.size)
  generalize hAe : va_A [oX4 a_th (.int v_date) (.int v_trueDay) (.int v_wasAsked) (.int v_clothState) (.int v_cracks) q_known] s.heap.size = A at hD hG ⊢
  have hA : ∀ q : Nat, s.heap.size ≤ q → A q := fun q h => by rw [← hAe]; exact Or.inr h
  have hS : va_S A s.heap s.heap [] := va_S.rf
  have hl := lv_entry ([.ref a_th]) (n := 1) (Nat.le_of_ble_eq_true rfl)
  rw [lg_entry_eq]
  generalize (lg_sl ([.ref a_th]) ++ List.replicate (1 - (lg_sl ([.ref a_th])).length) Slot.unset).toArray = ls at hl ⊢
  have hl : lv_has ls 1 [(0, .ref a_th)] := hl
  have iX4 : ∀ w ∈ wsX40, w ∈ wsX4_weekday := fun _ h => List.mem_cons_of_mem _ (List.mem_append_right _ h)
  have f15 := hts (.fieldLink RX4 15 "TrueOnceWeek$Moment" "date" "I") (by decide +kernel)
  refine kb_gen (fun Q hQ => ?_)
  unfold m_X4_weekday at hm
  refine lv_aload_n hx hb dX4_weekday_0 rfl (lv_at hl 0 rfl) ?_
  refine va_get (D := (dC, dI)) (ci := 4) (v := .int v_date) (C := RX4) (T := TX4) (N := 6) hx hb hts iX4 hown hK hP 0 rfl rfl 0 (by decide) f15 (fun _ h9 => h9) rfl dX4_weekday_1 ?_
  refine lv_bipush (v := (7 : Int32)) hx hb dX4_weekday_4 (by decide) ?_
  refine lv_irem hx hb dX4_weekday_6 (by decide) ?_
  obtain rfl := Option.some.inj hm
  subst hQ
  exact W.iret hx hb hr (fun t ht hW => ⟨⟨_, (), rfl, rfl, kb_h hP ht⟩, hS.F ht⟩) hS.2.2 dX4_weekday_7
set_option maxHeartbeats 4000000 in
set_option maxRecDepth 100000 in
theorem c_X9_everyCaseIf (l : Launch) (dC : Nat → ClassId) (dI : Nat → Nat → Nat) (cI cJ cZ cQ : ClassId) (t sz : Nat) (p_0 : Int32) (o : Int32) (hm : m_X9_everyCaseIf p_0 = some o) : Met l yX9_everyCaseIf wsX9_everyCaseIf { frames := 0, cells := 0, slots := 0, locals := 0 } (va_Pc [.int p_0] (cP (dC, dI) (kT cI cJ cZ cQ) t sz [])) (cQi (dC, dI) (va_A [] sz) o []) 0 0 (va_A [] sz) := by
  refine Met.ofW (cc := cX9_everyCaseIf) (maxL := 1) (ret := (some .int)) (by decide) rfl ?_
  intro p e s m args below meth c s₁ B hml hv
  obtain ⟨rfl, hsz, hP, hK, hD0, hG⟩ := hv
  have hx := B.exec
  have hb := B.bytes
  have hr := B.returns
  have hts := atoms_spec (ws := wsX9_everyCaseIf) B.pre
  have hown : s.vm.findClass RX9 = some m.cls := findClass_of_methodNamed B.named
  have hlocks := B.notSynchronized
  subst hsz
  have hD := hD0.self (sz := s.heap.size)
  generalize hAe : va_A [] s.heap.size = A at hD hG ⊢
  have hA : ∀ q : Nat, s.heap.size ≤ q → A q := fun q h => by rw [← hAe]; exact Or.inr h
  have hS : va_S A s.heap s.heap [] := va_S.rf
  have hl := lv_entry ([.int p_0]) (n := 1) (Nat.le_of_ble_eq_true rfl)
  rw [lg_entry_eq]
  generalize (lg_sl ([.int p_0]) ++ List.replicate (1 - (lg_sl ([.int p_0])).length) Slot.unset).toArray = ls at hl ⊢
  have hl : lv_has ls 1 [(0, .int p_0)] := hl
  refine kb_gen (fun Q hQ => ?_)
  unfold m_X9_everyCaseIf at hm
  refine lv_iload_n hx hb dX9_everyCaseIf_0 rfl (lv_at hl 0 rfl) ?_
  refine lv_if_eq (tgt := 8) hx hb dX9_everyCaseIf_1 (by decide) (fun c1 => ?_) (fun c1 => ?_)
  · replace hm := ite_t c1 hm
    refine lv_iconst (v := (0 : Int32)) hx hb dX9_everyCaseIf_8 (by decide) ?_
    obtain rfl := Option.some.inj hm
    subst hQ
    exact W.iret hx hb hr (fun t ht hW => ⟨⟨_, (), rfl, rfl, kb_h hP ht⟩, hS.F ht⟩) hS.2.2 dX9_everyCaseIf_9
  · replace hm := ite_f c1 hm
    refine lv_iconst (v := (-1 : Int32)) hx hb dX9_everyCaseIf_4 (by decide) ?_
    refine lv_goto (tgt := 9) hx hb dX9_everyCaseIf_5 (by decide) ?_
    obtain rfl := Option.some.inj hm
    subst hQ
    exact W.iret hx hb hr (fun t ht hW => ⟨⟨_, (), rfl, rfl, kb_h hP ht⟩, hS.F ht⟩) hS.2.2 dX9_everyCaseIf_9
set_option maxHeartbeats 4000000 in
set_option maxRecDepth 100000 in
theorem c_X6_isOfDay (l : Launch) (dC : Nat → ClassId) (dI : Nat → Nat → Nat) (cI cJ cZ cQ : ClassId) (t sz : Nat) (p_0 : Int32) (o : Int32) (hm : m_X6_isOfDay p_0 = some o) : Met l yX6_isOfDay wsX6_isOfDay { frames := 0, cells := 0, slots := 0, locals := 0 } (va_Pc [.int p_0] (cP (dC, dI) (kT cI cJ cZ cQ) t sz [])) (cQi (dC, dI) (va_A [] sz) o []) 0 0 (va_A [] sz) := by
  refine Met.ofW (cc := cX6_isOfDay) (maxL := 1) (ret := (some .boolean)) (by decide) rfl ?_
  intro p e s m args below meth c s₁ B hml hv
  obtain ⟨rfl, hsz, hP, hK, hD0, hG⟩ := hv
  have hx := B.exec
  have hb := B.bytes
  have hr := B.returns
  have hts := atoms_spec (ws := wsX6_isOfDay) B.pre
  have hown : s.vm.findClass RX6 = some m.cls := findClass_of_methodNamed B.named
  have hlocks := B.notSynchronized
  subst hsz
  have hD := hD0.self (sz := s.heap.size)
  generalize hAe : va_A [] s.heap.size = A at hD hG ⊢
  have hA : ∀ q : Nat, s.heap.size ≤ q → A q := fun q h => by rw [← hAe]; exact Or.inr h
  have hS : va_S A s.heap s.heap [] := va_S.rf
  have hl := lv_entry ([.int p_0]) (n := 1) (Nat.le_of_ble_eq_true rfl)
  rw [lg_entry_eq]
  generalize (lg_sl ([.int p_0]) ++ List.replicate (1 - (lg_sl ([.int p_0])).length) Slot.unset).toArray = ls at hl ⊢
  have hl : lv_has ls 1 [(0, .int p_0)] := hl
  refine kb_gen (fun Q hQ => ?_)
  unfold m_X6_isOfDay at hm
  refine lv_iload_n hx hb dX6_isOfDay_0 rfl (lv_at hl 0 rfl) ?_
  refine lv_bipush (v := (6 : Int32)) hx hb dX6_isOfDay_1 (by decide) ?_
  obtain ⟨k16, ek16, hm⟩ := nm_s hm
  have J16 : ∀ (H : Heap) (locs : List Loc) (ls : Array Slot), k16 = some o → va_P (dC, dI) vwCl [] H → va_S A s.heap H locs → lv_has ls 1 [] → W p l e (headSpec wsX6_isOfDay { frames := 0, cells := 0, slots := 0, locals := 0 }).room s m [.int p_0].toArray below meth c H locs 0 0 Q (F0 m 16 ls []) := by
    intro  H locs ls hm hP hS hl
    rw [ek16] at hm
    refine lv_iconst (v := (0 : Int32)) hx hb dX6_isOfDay_16 (by decide) ?_
    obtain rfl := Option.some.inj hm
    subst hQ
    exact W.zret hx hb hr rfl (fun t ht hW => ⟨⟨_, (), rfl, rfl, kb_h hP ht⟩, hS.F ht⟩) hS.2.2 dX6_isOfDay_17
  refine lv_icmp_lt (tgt := 16) hx hb dX6_isOfDay_3 (by decide) (fun c1 => ?_) (fun c1 => ?_)
  · replace hm := ite_t c1 hm
    exact J16  _ _ _ hm hP hS (lv_sub hl [] rfl)
  · replace hm := ite_f c1 hm
    refine lv_iload_n hx hb dX6_isOfDay_6 rfl (lv_at hl 0 rfl) ?_
    refine lv_bipush (v := (13 : Int32)) hx hb dX6_isOfDay_7 (by decide) ?_
    refine lv_icmp_ge (tgt := 16) hx hb dX6_isOfDay_9 (by decide) (fun c2 => ?_) (fun c2 => ?_)
    · replace hm := ite_t c2 hm
      exact J16  _ _ _ hm hP hS (lv_sub hl [] rfl)
    · replace hm := ite_f c2 hm
      refine lv_iconst (v := (1 : Int32)) hx hb dX6_isOfDay_12 (by decide) ?_
      refine lv_goto (tgt := 17) hx hb dX6_isOfDay_13 (by decide) ?_
      obtain rfl := Option.some.inj hm
      subst hQ
      exact W.zret hx hb hr rfl (fun t ht hW => ⟨⟨_, (), rfl, rfl, kb_h hP ht⟩, hS.F ht⟩) hS.2.2 dX6_isOfDay_17
set_option maxHeartbeats 4000000 in
set_option maxRecDepth 100000 in
theorem c_X6_casesSo (l : Launch) (dC : Nat → ClassId) (dI : Nat → Nat → Nat) (cI cJ cZ cQ : ClassId) (t sz : Nat) (p_0 : Int32) (p_1 : Int32) (p_2 : Int32) (p_3 : Int32) (o : Int32) (hm : m_X6_casesSo p_0 p_1 p_2 p_3 = some o) : Met l yX6_casesSo wsX6_casesSo { frames := 1, cells := 0, slots := 0, locals := 20 } (va_Pc [.int p_0, .int p_1, .int p_2, .int p_3] (cP (dC, dI) (kT cI cJ cZ cQ) t sz [])) (cQi (dC, dI) (va_A [] sz) o []) 0 0 (va_A [] sz) := by
  refine Met.ofW (cc := cX6_casesSo) (maxL := 6) (ret := (some .int)) (by decide) rfl ?_
  intro p e s m args below meth c s₁ B hml hv
  obtain ⟨rfl, hsz, hP, hK, hD0, hG⟩ := hv
  have hx := B.exec
  have hb := B.bytes
  have hr := B.returns
  have hts := atoms_spec (ws := wsX6_casesSo) B.pre
  have hown : s.vm.findClass RX6 = some m.cls := findClass_of_methodNamed B.named
  have hlocks := B.notSynchronized
  subst hsz
  have hD := hD0.self (sz := s.heap.size)
  generalize hAe : va_A [] s.heap.size = A at hD hG ⊢
  have hA : ∀ q : Nat, s.heap.size ≤ q → A q := fun q h => by rw [← hAe]; exact Or.inr h
  have hS : va_S A s.heap s.heap [] := va_S.rf
  have hl := lv_entry ([.int p_0, .int p_1, .int p_2, .int p_3]) (n := 6) (Nat.le_of_ble_eq_true rfl)
  rw [lg_entry_eq]
  generalize (lg_sl ([.int p_0, .int p_1, .int p_2, .int p_3]) ++ List.replicate (6 - (lg_sl ([.int p_0, .int p_1, .int p_2, .int p_3])).length) Slot.unset).toArray = ls at hl ⊢
  have hl : lv_has ls 6 [(0, .int p_0), (1, .int p_1), (2, .int p_2), (3, .int p_3)] := hl
  have nl11 := (hG.2.1 (RX6, 11, yX9_everyCaseIf) (by decide +kernel) : va_Nw (.methodLinkNest RX6 11 yX9_everyCaseIf "TrueOnceWeek") s)
  have ni11 := hts (.initialized RX9) (by decide +kernel)
  have ns11 := hts (.static yX9_everyCaseIf) (by decide +kernel)
  have nl23 := (hG.2.1 (RX6, 23, yX9_casesWithFact) (by decide +kernel) : va_Nw (.methodLinkNest RX6 23 yX9_casesWithFact "TrueOnceWeek") s)
  have ni23 := hts (.initialized RX9) (by decide +kernel)
  have ns23 := hts (.static yX9_casesWithFact) (by decide +kernel)
  refine kb_gen (fun Q hQ => ?_)
  unfold m_X6_casesSo at hm
  refine lv_iload_n hx hb dX6_casesSo_0 rfl (lv_at hl 0 rfl) ?_
  refine lv_bipush (v := (18 : Int32)) hx hb dX6_casesSo_1 (by decide) ?_
  refine lv_icmp_ne (tgt := 11) hx hb dX6_casesSo_3 (by decide) (fun c1 => ?_) (fun c1 => ?_)
  · replace hm := ite_f c1 hm
    refine lv_iload_n hx hb dX6_casesSo_11 rfl (lv_at hl 0 rfl) ?_
    obtain ⟨r2, ho3, hm⟩ := bd1_s hm
    refine kb_calli (Rv := r2) (va_runS (As := [.int p_0]) (rest := []) ⟨hx, hb, hml, hown, hts⟩ (c_X6_isOfDay l dC dI cI cJ cZ cQ t s.heap.size p_0 (r2) ho3) (va_cwS 1 hts gX6_casesSo_X6_isOfDay rfl rfl rfl (by decide +kernel) ⟨(Nat.le_of_ble_eq_true rfl), (Nat.le_of_ble_eq_true rfl)⟩) (kb_pre hK hG hP (kb_D hD rfl) hS hA [] rfl (by decide)) rfl rfl hl.1 rfl (lv_room (Nat.le_of_ble_eq_true rfl)) dX6_casesSo_12 ⟨Nat.zero_le _, Nat.zero_le _⟩) hP (kb_D hD rfl) hS hA [] rfl [] (w2 := []) rfl (by decide) (fun H locs hP hS => ?_)
    refine lv_if_eq (tgt := 35) hx hb dX6_casesSo_15 (by decide) (fun c4 => ?_) (fun c4 => ?_)
    · replace hm := ite_t c4 hm
      refine lv_iload_n hx hb dX6_casesSo_35 rfl (lv_at hl 2 rfl) ?_
      refine lv_iload_n hx hb dX6_casesSo_36 rfl (lv_at hl 3 rfl) ?_
      obtain ⟨k45, ek45, hm⟩ := nm_s hm
      have J45 : ∀ (x5 : Int32) (H : Heap) (locs : List Loc) (ls : Array Slot), k45 x5 = some o → va_P (dC, dI) vwCl [] H → va_S A s.heap H locs → lv_has ls 6 [(0, .int p_0)] → W p l e (headSpec wsX6_casesSo { frames := 1, cells := 0, slots := 0, locals := 20 }).room s m [.int p_0, .int p_1, .int p_2, .int p_3].toArray below meth c H locs 0 0 Q (F0 m 45 ls [.int x5]) := by
        intro x5 H locs ls hm hP hS hl
        rw [ek45] at hm
        obtain ⟨r6, ho7, hm⟩ := bd1_s hm
        refine kb_calli (Rv := r6) (va_runSN (As := [.int x5]) (rest := []) ⟨hx, hb, hml, hown, hts⟩ (c_X9_everyCaseIf l dC dI cI cJ cZ cQ t H.size x5 (r6) ho7) ⟨va_cnB (ret := (some .int)) (maxL := 1) 1 hts gX6_casesSo_X9_everyCaseIf_n11 rfl rfl rfl nl11 ni11 (by decide +kernel) ⟨(Nat.le_of_ble_eq_true rfl), (Nat.le_of_ble_eq_true rfl)⟩, ns11, trivial⟩ (kb_pre hK hG hP (kb_D hD rfl) hS hA [] rfl (by decide)) rfl rfl hl.1 rfl (lv_room (Nat.le_of_ble_eq_true rfl)) dX6_casesSo_45 ⟨Nat.zero_le _, Nat.zero_le _⟩) hP (kb_D hD rfl) hS hA [] rfl [] (w2 := []) rfl (by decide) (fun H locs hP hS => ?_)
        refine lv_istore (lv' := [(4, .int r6), (0, .int p_0)]) hx hb dX6_casesSo_48 hl (by decide) rfl (fun ls hl => ?_)
        refine lv_iload_n hx hb dX6_casesSo_50 rfl (lv_at hl 1 rfl) ?_
        refine lv_iconst (v := (5 : Int32)) hx hb dX6_casesSo_51 (by decide) ?_
        refine lv_icmp_ne (tgt := 58) hx hb dX6_casesSo_52 (by decide) (fun c8 => ?_) (fun c8 => ?_)
        · replace hm := ite_f c8 hm
          refine lv_iload_n hx hb dX6_casesSo_58 rfl (lv_at hl 1 rfl) ?_
          obtain ⟨r9, ho10, hm⟩ := bd1_s hm
          refine kb_calli (Rv := r9) (va_runS (As := [.int p_0]) (rest := []) ⟨hx, hb, hml, hown, hts⟩ (c_X6_factOf l dC dI cI cJ cZ cQ t H.size p_0 (r9) ho10) (va_cwS 1 hts gX6_casesSo_X6_factOf rfl rfl rfl (by decide +kernel) ⟨(Nat.le_of_ble_eq_true rfl), (Nat.le_of_ble_eq_true rfl)⟩) (kb_pre hK hG hP (kb_D hD rfl) hS hA [] rfl (by decide)) rfl rfl hl.1 rfl (lv_room (Nat.le_of_ble_eq_true rfl)) dX6_casesSo_59 ⟨Nat.zero_le _, Nat.zero_le _⟩) hP (kb_D hD rfl) hS hA [] rfl [] (w2 := []) rfl (by decide) (fun H locs hP hS => ?_)
          obtain ⟨r11, ho12, hm⟩ := bd1_s hm
          refine kb_calli (Rv := r11) (va_runSN (As := [.int r9]) (rest := []) ⟨hx, hb, hml, hown, hts⟩ (c_X9_casesWithFact l dC dI cI cJ cZ cQ t H.size r9 (r11) ho12) ⟨va_cnB (ret := (some .int)) (maxL := 1) 1 hts gX6_casesSo_X9_casesWithFact_n23 rfl rfl rfl nl23 ni23 (by decide +kernel) ⟨(Nat.le_of_ble_eq_true rfl), (Nat.le_of_ble_eq_true rfl)⟩, ns23, trivial⟩ (kb_pre hK hG hP (kb_D hD rfl) hS hA [] rfl (by decide)) rfl rfl hl.1 rfl (lv_room (Nat.le_of_ble_eq_true rfl)) dX6_casesSo_62 ⟨Nat.zero_le _, Nat.zero_le _⟩) hP (kb_D hD rfl) hS hA [] rfl [] (w2 := []) rfl (by decide) (fun H locs hP hS => ?_)
          refine lv_istore (lv' := [(5, .int r11), (4, .int r6), (0, .int p_0)]) hx hb dX6_casesSo_65 hl (by decide) rfl (fun ls hl => ?_)
          refine lv_iload_n hx hb dX6_casesSo_67 rfl (lv_at hl 2 rfl) ?_
          refine lv_iconst (v := (5 : Int32)) hx hb dX6_casesSo_68 (by decide) ?_
          refine lv_icmp_ge (tgt := 77) hx hb dX6_casesSo_69 (by decide) (fun c13 => ?_) (fun c13 => ?_)
          · replace hm := ite_t c13 hm
            refine lv_iload hx hb dX6_casesSo_77 (lv_at hl 0 rfl) ?_
            refine lv_iload hx hb dX6_casesSo_79 (lv_at hl 1 rfl) ?_
            refine lv_ixor hx hb dX6_casesSo_81 ?_
            obtain rfl := Option.some.inj hm
            subst hQ
            exact W.iret hx hb hr (fun t ht hW => ⟨⟨_, (), rfl, rfl, kb_h hP ht⟩, hS.F ht⟩) hS.2.2 dX6_casesSo_82
          · replace hm := ite_f c13 hm
            refine lv_iload hx hb dX6_casesSo_72 (lv_at hl 0 rfl) ?_
            refine lv_goto (tgt := 82) hx hb dX6_casesSo_74 (by decide) ?_
            obtain rfl := Option.some.inj hm
            subst hQ
            exact W.iret hx hb hr (fun t ht hW => ⟨⟨_, (), rfl, rfl, kb_h hP ht⟩, hS.F ht⟩) hS.2.2 dX6_casesSo_82
        · replace hm := ite_t c8 hm
          refine lv_iload hx hb dX6_casesSo_55 (lv_at hl 0 rfl) ?_
          obtain rfl := Option.some.inj hm
          subst hQ
          exact W.iret hx hb hr (fun t ht hW => ⟨⟨_, (), rfl, rfl, kb_h hP ht⟩, hS.F ht⟩) hS.2.2 dX6_casesSo_57
      refine lv_icmp_ne (tgt := 44) hx hb dX6_casesSo_37 (by decide) (fun c14 => ?_) (fun c14 => ?_)
      · replace hm := ite_f c14 hm
        refine lv_iconst (v := (0 : Int32)) hx hb dX6_casesSo_44 (by decide) ?_
        exact J45 (0 : Int32) _ _ _ hm hP hS (lv_sub hl [0] rfl)
      · replace hm := ite_t c14 hm
        refine lv_iconst (v := (1 : Int32)) hx hb dX6_casesSo_40 (by decide) ?_
        refine lv_goto (tgt := 45) hx hb dX6_casesSo_41 (by decide) ?_
        exact J45 (1 : Int32) _ _ _ hm hP hS (lv_sub hl [0] rfl)
    · replace hm := ite_f c4 hm
      refine lv_iload_n hx hb dX6_casesSo_18 rfl (lv_at hl 0 rfl) ?_
      refine lv_bipush (v := (6 : Int32)) hx hb dX6_casesSo_19 (by decide) ?_
      refine lv_isub hx hb dX6_casesSo_21 ?_
      refine lv_iload_n hx hb dX6_casesSo_22 rfl (lv_at hl 3 rfl) ?_
      obtain ⟨k31, ek31, hm⟩ := nm_s hm
      have J31 : ∀ (x15 : Int32) (H : Heap) (locs : List Loc) (ls : Array Slot), k31 x15 = some o → va_P (dC, dI) vwCl [] H → va_S A s.heap H locs → lv_has ls 6 [] → W p l e (headSpec wsX6_casesSo { frames := 1, cells := 0, slots := 0, locals := 20 }).room s m [.int p_0, .int p_1, .int p_2, .int p_3].toArray below meth c H locs 0 0 Q (F0 m 31 ls [.int x15]) := by
        intro x15 H locs ls hm hP hS hl
        rw [ek31] at hm
        obtain ⟨r16, ho17, hm⟩ := bd1_s hm
        refine kb_calli (Rv := r16) (va_runSN (As := [.int x15]) (rest := []) ⟨hx, hb, hml, hown, hts⟩ (c_X9_everyCaseIf l dC dI cI cJ cZ cQ t H.size x15 (r16) ho17) ⟨va_cnB (ret := (some .int)) (maxL := 1) 1 hts gX6_casesSo_X9_everyCaseIf_n11 rfl rfl rfl nl11 ni11 (by decide +kernel) ⟨(Nat.le_of_ble_eq_true rfl), (Nat.le_of_ble_eq_true rfl)⟩, ns11, trivial⟩ (kb_pre hK hG hP (kb_D hD rfl) hS hA [] rfl (by decide)) rfl rfl hl.1 rfl (lv_room (Nat.le_of_ble_eq_true rfl)) dX6_casesSo_31 ⟨Nat.zero_le _, Nat.zero_le _⟩) hP (kb_D hD rfl) hS hA [] rfl [] (w2 := []) rfl (by decide) (fun H locs hP hS => ?_)
        obtain rfl := Option.some.inj hm
        subst hQ
        exact W.iret hx hb hr (fun t ht hW => ⟨⟨_, (), rfl, rfl, kb_h hP ht⟩, hS.F ht⟩) hS.2.2 dX6_casesSo_34
      refine lv_icmp_ne (tgt := 30) hx hb dX6_casesSo_23 (by decide) (fun c18 => ?_) (fun c18 => ?_)
      · replace hm := ite_f c18 hm
        refine lv_iconst (v := (0 : Int32)) hx hb dX6_casesSo_30 (by decide) ?_
        exact J31 (0 : Int32) _ _ _ hm hP hS (lv_sub hl [] rfl)
      · replace hm := ite_t c18 hm
        refine lv_iconst (v := (1 : Int32)) hx hb dX6_casesSo_26 (by decide) ?_
        refine lv_goto (tgt := 31) hx hb dX6_casesSo_27 (by decide) ?_
        exact J31 (1 : Int32) _ _ _ hm hP hS (lv_sub hl [] rfl)
  · replace hm := ite_t c1 hm
    refine lv_iload_n hx hb dX6_casesSo_6 rfl (lv_at hl 1 rfl) ?_
    obtain ⟨r19, ho20, hm⟩ := bd1_s hm
    refine kb_calli (Rv := r19) (va_runSN (As := [.int p_1]) (rest := []) ⟨hx, hb, hml, hown, hts⟩ (c_X9_everyCaseIf l dC dI cI cJ cZ cQ t s.heap.size p_1 (r19) ho20) ⟨va_cnB (ret := (some .int)) (maxL := 1) 1 hts gX6_casesSo_X9_everyCaseIf_n11 rfl rfl rfl nl11 ni11 (by decide +kernel) ⟨(Nat.le_of_ble_eq_true rfl), (Nat.le_of_ble_eq_true rfl)⟩, ns11, trivial⟩ (kb_pre hK hG hP (kb_D hD rfl) hS hA [] rfl (by decide)) rfl rfl hl.1 rfl (lv_room (Nat.le_of_ble_eq_true rfl)) dX6_casesSo_7 ⟨Nat.zero_le _, Nat.zero_le _⟩) hP (kb_D hD rfl) hS hA [] rfl [] (w2 := []) rfl (by decide) (fun H locs hP hS => ?_)
    obtain rfl := Option.some.inj hm
    subst hQ
    exact W.iret hx hb hr (fun t ht hW => ⟨⟨_, (), rfl, rfl, kb_h hP ht⟩, hS.F ht⟩) hS.2.2 dX6_casesSo_10
set_option maxHeartbeats 4000000 in
set_option maxRecDepth 100000 in
theorem c_X5_joined (l : Launch) (dC : Nat → ClassId) (dI : Nat → Nat → Nat) (cI cJ cZ cQ : ClassId) (t sz : Nat) (p_0 : Int32) (p_1 : Int32) (p_2 : Int32) (o : Int32) (hm : m_X5_joined p_0 p_1 p_2 = some o) : Met l yX5_joined wsX5_joined { frames := 0, cells := 0, slots := 0, locals := 0 } (va_Pc [.int p_0, .int p_1, .int p_2] (cP (dC, dI) (kT cI cJ cZ cQ) t sz [])) (cQi (dC, dI) (va_A [] sz) o []) 0 0 (va_A [] sz) := by
  refine Met.ofW (cc := cX5_joined) (maxL := 3) (ret := (some .int)) (by decide) rfl ?_
  intro p e s m args below meth c s₁ B hml hv
  obtain ⟨rfl, hsz, hP, hK, hD0, hG⟩ := hv
  have hx := B.exec
  have hb := B.bytes
  have hr := B.returns
  have hts := atoms_spec (ws := wsX5_joined) B.pre
  have hown : s.vm.findClass RX5 = some m.cls := findClass_of_methodNamed B.named
  have hlocks := B.notSynchronized
  subst hsz
  have hD := hD0.self (sz := s.heap.size)
  generalize hAe : va_A [] s.heap.size = A at hD hG ⊢
  have hA : ∀ q : Nat, s.heap.size ≤ q → A q := fun q h => by rw [← hAe]; exact Or.inr h
  have hS : va_S A s.heap s.heap [] := va_S.rf
  have hl := lv_entry ([.int p_0, .int p_1, .int p_2]) (n := 3) (Nat.le_of_ble_eq_true rfl)
  rw [lg_entry_eq]
  generalize (lg_sl ([.int p_0, .int p_1, .int p_2]) ++ List.replicate (3 - (lg_sl ([.int p_0, .int p_1, .int p_2])).length) Slot.unset).toArray = ls at hl ⊢
  have hl : lv_has ls 3 [(0, .int p_0), (1, .int p_1), (2, .int p_2)] := hl
  refine kb_gen (fun Q hQ => ?_)
  unfold m_X5_joined at hm
  refine lv_iload_n hx hb dX5_joined_0 rfl (lv_at hl 0 rfl) ?_
  refine lv_bipush (v := (38 : Int32)) hx hb dX5_joined_1 (by decide) ?_
  refine lv_icmp_ne (tgt := 10) hx hb dX5_joined_3 (by decide) (fun c1 => ?_) (fun c1 => ?_)
  · replace hm := ite_f c1 hm
    refine lv_iload_n hx hb dX5_joined_10 rfl (lv_at hl 0 rfl) ?_
    refine lv_bipush (v := (124 : Int32)) hx hb dX5_joined_11 (by decide) ?_
    refine lv_icmp_ne (tgt := 22) hx hb dX5_joined_13 (by decide) (fun c2 => ?_) (fun c2 => ?_)
    · replace hm := ite_f c2 hm
      refine lv_iload_n hx hb dX5_joined_22 rfl (lv_at hl 1 rfl) ?_
      refine lv_iload_n hx hb dX5_joined_23 rfl (lv_at hl 2 rfl) ?_
      refine lv_ixor hx hb dX5_joined_24 ?_
      obtain rfl := Option.some.inj hm
      subst hQ
      exact W.iret hx hb hr (fun t ht hW => ⟨⟨_, (), rfl, rfl, kb_h hP ht⟩, hS.F ht⟩) hS.2.2 dX5_joined_25
    · replace hm := ite_t c2 hm
      refine lv_iload_n hx hb dX5_joined_16 rfl (lv_at hl 1 rfl) ?_
      refine lv_iload_n hx hb dX5_joined_17 rfl (lv_at hl 2 rfl) ?_
      refine lv_ior hx hb dX5_joined_18 ?_
      refine lv_goto (tgt := 25) hx hb dX5_joined_19 (by decide) ?_
      obtain rfl := Option.some.inj hm
      subst hQ
      exact W.iret hx hb hr (fun t ht hW => ⟨⟨_, (), rfl, rfl, kb_h hP ht⟩, hS.F ht⟩) hS.2.2 dX5_joined_25
  · replace hm := ite_t c1 hm
    refine lv_iload_n hx hb dX5_joined_6 rfl (lv_at hl 1 rfl) ?_
    refine lv_iload_n hx hb dX5_joined_7 rfl (lv_at hl 2 rfl) ?_
    refine lv_iand hx hb dX5_joined_8 ?_
    obtain rfl := Option.some.inj hm
    subst hQ
    exact W.iret hx hb hr (fun t ht hW => ⟨⟨_, (), rfl, rfl, kb_h hP ht⟩, hS.F ht⟩) hS.2.2 dX5_joined_9
set_option maxHeartbeats 4000000 in
set_option maxRecDepth 100000 in
theorem c_X5_casesSo (l : Launch) (dC : Nat → ClassId) (dI : Nat → Nat → Nat) (cI cJ cZ cQ : ClassId) (t sz : Nat) (a_th : Nat) (a_letters : Nat) (a_letters_bytes : Nat) (a_stack : Nat) (n_letters_bytes : Nat) (v_letters_length : Int32) (v_letters_bytes : (Nat → Int32)) (v_stack : (Nat → Int32)) (p_1 : Int32) (p_2 : Int32) (p_3 : Int32) (o : Int32 × (Nat → Int32)) (hm : m_X5_casesSo p_1 p_2 p_3 n_letters_bytes v_letters_length v_letters_bytes v_stack = some o) : Met l yX5_casesSo wsX5_casesSo { frames := 2, cells := 0, slots := 0, locals := 45 } (va_Pc [.ref a_th, .int p_1, .int p_2, .int p_3] (cP (dC, dI) (kT cI cJ cZ cQ) t sz [oX5 a_th (.ref a_letters) (.ref a_stack), oX3 a_letters (.ref a_letters_bytes) (.int v_letters_length), aI cI a_letters_bytes n_letters_bytes v_letters_bytes, aI cI a_stack 16 v_stack])) (cQi (dC, dI) (va_A [oX5 a_th (.ref a_letters) (.ref a_stack), oX3 a_letters (.ref a_letters_bytes) (.int v_letters_length), aI cI a_letters_bytes n_letters_bytes v_letters_bytes, aI cI a_stack 16 v_stack] sz) o.1 [oX5 a_th (.ref a_letters) (.ref a_stack), oX3 a_letters (.ref a_letters_bytes) (.int v_letters_length), aI cI a_letters_bytes n_letters_bytes v_letters_bytes, aI cI a_stack 16 (o.2)]) 0 0 (va_A [oX5 a_th (.ref a_letters) (.ref a_stack), oX3 a_letters (.ref a_letters_bytes) (.int v_letters_length), aI cI a_letters_bytes n_letters_bytes v_letters_bytes, aI cI a_stack 16 v_stack] sz) := by
  refine Met.ofW (cc := cX5_casesSo) (maxL := 7) (ret := (some .int)) (by decide) rfl ?_
  intro p e s m args below meth c s₁ B hml hv
  obtain ⟨rfl, hsz, hP, hK, hD0, hG⟩ := hv
  have hx := B.exec
  have hb := B.bytes
  have hr := B.returns
  have hts := atoms_spec (ws := wsX5_casesSo) B.pre
  have hown : s.vm.findClass RX5 = some m.cls := findClass_of_methodNamed B.named
  have hlocks := B.notSynchronized
  subst hsz
  have hD := hD0.self (sz := s.heap.size)
  generalize hAe : va_A [oX5 a_th (.ref a_letters) (.ref a_stack), oX3 a_letters (.ref a_letters_bytes) (.int v_letters_length), aI cI a_letters_bytes n_letters_bytes v_letters_bytes, aI cI a_stack 16 v_stack] s.heap.size = A at hD hG ⊢
  have hA : ∀ q : Nat, s.heap.size ≤ q → A q := fun q h => by rw [← hAe]; exact Or.inr h
  have hS : va_S A s.heap s.heap [] := va_S.rf
  have hl := lv_entry ([.ref a_th, .int p_1, .int p_2, .int p_3]) (n := 7) (Nat.le_of_ble_eq_true rfl)
  rw [lg_entry_eq]
  generalize (lg_sl ([.ref a_th, .int p_1, .int p_2, .int p_3]) ++ List.replicate (7 - (lg_sl ([.ref a_th, .int p_1, .int p_2, .int p_3])).length) Slot.unset).toArray = ls at hl ⊢
  have hl : lv_has ls 7 [(0, .ref a_th), (1, .int p_1), (2, .int p_2), (3, .int p_3)] := hl
  have iX5 : ∀ w ∈ wsX50, w ∈ wsX5_casesSo := fun _ h => List.mem_cons_of_mem _ (List.mem_append_left _ (List.mem_append_right _ h))
  have iX3 : ∀ w ∈ wsX30, w ∈ wsX5_casesSo := fun _ h => List.mem_cons_of_mem _ (List.mem_append_right _ h)
  have f14 := hts (.fieldLink RX5 14 "TrueOnceWeek$Question" "letters" "LTrueOnceWeek$Letters;") (by decide +kernel)
  have f24 := va_Nw.use (A := [.ref a_th, .int p_1, .int p_2, .int p_3].toArray) (w := .fieldLinkNest RX5 24 "TrueOnceWeek$Letters" "length" "I" "TrueOnceWeek") rfl (hG.1 (RX5, 24, "TrueOnceWeek$Letters", "length", "I") (by decide +kernel))
  have f20 := hts (.fieldLink RX5 20 "TrueOnceWeek$Question" "stack" "[I") (by decide +kernel)
  refine kb_gen (fun Q hQ => ?_)
  unfold m_X5_casesSo at hm
  refine lv_iconst (v := (0 : Int32)) hx hb dX5_casesSo_0 (by decide) ?_
  refine lv_istore (lv' := [(4, .int (0 : Int32)), (0, .ref a_th), (1, .int p_1), (2, .int p_2), (3, .int p_3)]) hx hb dX5_casesSo_1 hl (by decide) rfl (fun ls hl => ?_)
  refine lv_aload_n hx hb dX5_casesSo_3 rfl (lv_at hl 1 rfl) ?_
  refine va_get (D := (dC, dI)) (ci := 5) (v := .ref a_letters) (C := RX5) (T := TX5) (N := 2) hx hb hts iX5 hown hK hP 0 rfl rfl 0 (by decide) f14 (fun _ h9 => h9) rfl dX5_casesSo_4 ?_
  refine va_getN (D := (dC, dI)) (ci := 3) (v := .int v_letters_length) (C := RX3) (T := TX3) (N := 2) hx hb hts iX3 hown hK hP 1 rfl rfl 1 (by decide) f24 (fun _ h9 => h9) rfl dX5_casesSo_7 ?_
  refine lv_iconst (v := (1 : Int32)) hx hb dX5_casesSo_10 (by decide) ?_
  refine lv_isub hx hb dX5_casesSo_11 ?_
  refine lv_topi (fun x1 ex1 => ?_)
  replace hm := nm_t ex1 hm
  refine lv_istore (lv' := [(5, .int x1), (4, .int (0 : Int32)), (0, .ref a_th), (1, .int p_1), (2, .int p_2), (3, .int p_3)]) hx hb dX5_casesSo_12 hl (by decide) rfl (fun ls hl => ?_)
  have lp14 : ∀ (n14 : Nat) (x2 : Int32) (x3 : Int32) (w4 : (Nat → Int32)) (k14 : Int32 → (Nat → Int32) → Option (Int32 × (Nat → Int32))) (H : Heap) (locs : List Loc) (ls : Array Slot), L_X5_casesSo_14 v_letters_length v_letters_bytes p_1 p_2 p_3 n_letters_bytes n14 x2 x3 w4 k14 = some o → (∀ (x5 : Int32) (w6 : (Nat → Int32)) (H : Heap) (locs : List Loc) (ls : Array Slot), k14 x5 w6 = some o → va_P (dC, dI) vwCl [oX5 a_th (.ref a_letters) (.ref a_stack), oX3 a_letters (.ref a_letters_bytes) (.int v_letters_length), aI cI a_letters_bytes n_letters_bytes v_letters_bytes, aI cI a_stack 16 w6] H → va_S A s.heap H locs → lv_has ls 7 [(0, .ref a_th), (4, .int x5)] → W p l e (headSpec wsX5_casesSo { frames := 2, cells := 0, slots := 0, locals := 45 }).room s m [.ref a_th, .int p_1, .int p_2, .int p_3].toArray below meth c H locs 0 0 Q (F0 m 153 ls [])) → va_P (dC, dI) vwCl [oX5 a_th (.ref a_letters) (.ref a_stack), oX3 a_letters (.ref a_letters_bytes) (.int v_letters_length), aI cI a_letters_bytes n_letters_bytes v_letters_bytes, aI cI a_stack 16 w4] H → va_S A s.heap H locs → lv_has ls 7 [(0, .ref a_th), (1, .int p_1), (2, .int p_2), (3, .int p_3), (4, .int x2), (5, .int x3)] → W p l e (headSpec wsX5_casesSo { frames := 2, cells := 0, slots := 0, locals := 45 }).room s m [.ref a_th, .int p_1, .int p_2, .int p_3].toArray below meth c H locs 0 0 Q (F0 m 14 ls []) := by
    intro n14
    induction n14 with
    | zero =>
      intro x2 x3 w4 k14 H locs ls hm
      cases (show (none : Option (Int32 × (Nat → Int32))) = some o from hm)
    | succ n14 ih14 =>
      intro x2 x3 w4 k14 H locs ls hm hk14 hP hS hl
      rw [L_X5_casesSo_14.eq_2] at hm
      refine lv_iload hx hb dX5_casesSo_14 (lv_at hl 5 rfl) ?_
      refine lv_if_lt (tgt := 153) hx hb dX5_casesSo_16 (by decide) (fun c7 => ?_) (fun c7 => ?_)
      · replace hm := ite_t c7 hm
        exact hk14 x2 w4 _ _ _ hm hP hS (lv_sub hl [0, 4] rfl)
      · replace hm := ite_f c7 hm
        refine lv_aload_n hx hb dX5_casesSo_19 rfl (lv_at hl 0 rfl) ?_
        refine va_get (D := (dC, dI)) (ci := 5) (v := .ref a_letters) (C := RX5) (T := TX5) (N := 2) hx hb hts iX5 hown hK hP 0 rfl rfl 0 (by decide) f14 (fun _ h9 => h9) rfl dX5_casesSo_20 ?_
        refine lv_iload hx hb dX5_casesSo_23 (lv_at hl 5 rfl) ?_
        obtain ⟨r8, ho9, hm⟩ := bd1_s hm
        refine kb_calli (Rv := r8) (va_runV (As := [.int x3]) (rest := []) ⟨hx, hb, hml, hown, hts⟩ (c_X3_at l dC dI cI cJ cZ cQ t H.size a_letters a_letters_bytes n_letters_bytes v_letters_length v_letters_bytes x3 (r8) ho9) (cwV 1 hts gX5_casesSo_X3_at rfl rfl rfl (by decide +kernel) ⟨(Nat.le_of_ble_eq_true rfl), (Nat.le_of_ble_eq_true rfl)⟩) ⟨(kb_pre hK hG hP (kb_D hD rfl) hS hA [1, 2] rfl (by decide)).1, (va_recv hK hP (ci := 3) (q0 := 1) rfl rfl), (kb_pre hK hG hP (kb_D hD rfl) hS hA [1, 2] rfl (by decide)).2⟩ rfl rfl hl.1 rfl (lv_room (Nat.le_of_ble_eq_true rfl)) dX5_casesSo_25 ⟨Nat.zero_le _, Nat.zero_le _⟩) hP (kb_D hD rfl) hS hA [1, 2] rfl [(false, 0), (true, 0), (true, 1), (false, 3)] (w2 := [oX5 a_th (.ref a_letters) (.ref a_stack), oX3 a_letters (.ref a_letters_bytes) (.int v_letters_length), aI cI a_letters_bytes n_letters_bytes v_letters_bytes, aI cI a_stack 16 w4]) rfl (by decide) (fun H locs hP hS => ?_)
        refine lv_istore (lv' := [(6, .int r8), (0, .ref a_th), (1, .int p_1), (2, .int p_2), (3, .int p_3), (4, .int x2), (5, .int x3)]) hx hb dX5_casesSo_28 hl (by decide) rfl (fun ls hl => ?_)
        refine lv_iload hx hb dX5_casesSo_30 (lv_at hl 0 rfl) ?_
        refine lv_bipush (v := (110 : Int32)) hx hb dX5_casesSo_32 (by decide) ?_
        obtain ⟨k147, ek147, hm⟩ := nm_s hm
        have J147 : ∀ (x10 : Int32) (w11 : (Nat → Int32)) (H : Heap) (locs : List Loc) (ls : Array Slot), k147 x10 w11 = some o → va_P (dC, dI) vwCl [oX5 a_th (.ref a_letters) (.ref a_stack), oX3 a_letters (.ref a_letters_bytes) (.int v_letters_length), aI cI a_letters_bytes n_letters_bytes v_letters_bytes, aI cI a_stack 16 w11] H → va_S A s.heap H locs → lv_has ls 7 [(0, .ref a_th), (1, .int p_1), (2, .int p_2), (3, .int p_3), (4, .int x10), (5, .int x3)] → W p l e (headSpec wsX5_casesSo { frames := 2, cells := 0, slots := 0, locals := 45 }).room s m [.ref a_th, .int p_1, .int p_2, .int p_3].toArray below meth c H locs 0 0 Q (F0 m 147 ls []) := by
          intro x10 w11 H locs ls hm hP hS hl
          rw [ek147] at hm
          obtain ⟨x12, ex12⟩ : ∃ y : Int32, y = x3 + (-1 : Int32) := ⟨_, rfl⟩
          replace hm := nm_t ex12 hm
          refine lv_iinc (v := x12) (lv' := [(5, .int x12), (0, .ref a_th), (1, .int p_1), (2, .int p_2), (3, .int p_3), (4, .int x10)]) hx hb dX5_casesSo_147 hl (k := 5) rfl (by rw [ex12]; rfl) (by decide) rfl (fun ls hl => ?_)
          refine lv_goto (tgt := 14) hx hb dX5_casesSo_150 (by decide) ?_
          exact ih14 x10 x12 w11 k14 _ _ _ hm hk14 hP hS (lv_sub hl [1, 2, 3, 4, 5, 0] rfl)
        refine lv_icmp_ne (tgt := 66) hx hb dX5_casesSo_34 (by decide) (fun c13 => ?_) (fun c13 => ?_)
        · replace hm := ite_f c13 hm
          refine lv_iload hx hb dX5_casesSo_66 (lv_at hl 0 rfl) ?_
          obtain ⟨r14, ho15, hm⟩ := bd1_s hm
          refine kb_calli (Rv := r14) (va_runS (As := [.int r8]) (rest := []) ⟨hx, hb, hml, hown, hts⟩ (c_X5_isJoin l dC dI cI cJ cZ cQ t H.size r8 (r14) ho15) (va_cwS 1 hts gX5_casesSo_X5_isJoin rfl rfl rfl (by decide +kernel) ⟨(Nat.le_of_ble_eq_true rfl), (Nat.le_of_ble_eq_true rfl)⟩) (kb_pre hK hG hP (kb_D hD rfl) hS hA [] rfl (by decide)) rfl rfl hl.1 rfl (lv_room (Nat.le_of_ble_eq_true rfl)) dX5_casesSo_68 ⟨Nat.zero_le _, Nat.zero_le _⟩) hP (kb_D hD rfl) hS hA [] rfl [(false, 0), (false, 1), (false, 2), (false, 3)] (w2 := [oX5 a_th (.ref a_letters) (.ref a_stack), oX3 a_letters (.ref a_letters_bytes) (.int v_letters_length), aI cI a_letters_bytes n_letters_bytes v_letters_bytes, aI cI a_stack 16 w4]) rfl (by decide) (fun H locs hP hS => ?_)
          refine lv_if_eq (tgt := 116) hx hb dX5_casesSo_71 (by decide) (fun c16 => ?_) (fun c16 => ?_)
          · replace hm := ite_t c16 hm
            refine lv_iload hx hb dX5_casesSo_116 (lv_at hl 5 rfl) ?_
            refine lv_aload_n hx hb dX5_casesSo_118 rfl (lv_at hl 1 rfl) ?_
            refine va_get (D := (dC, dI)) (ci := 5) (v := .ref a_stack) (C := RX5) (T := TX5) (N := 2) hx hb hts iX5 hown hK hP 0 rfl rfl 1 (by decide) f20 (fun _ h9 => h9) rfl dX5_casesSo_119 ?_
            refine va_alen (v := (16 : Int32)) hx hb hK hP 3 0 rfl rfl rfl dX5_casesSo_122 ?_
            refine lv_icmp_ge (tgt := 147) hx hb dX5_casesSo_123 (by decide) (fun c17 => ?_) (fun c17 => ?_)
            · replace hm := ite_t c17 hm
              exact J147 x2 w4 _ _ _ hm hP hS (lv_sub hl [1, 2, 3, 4, 5, 6] rfl)
            · replace hm := ite_f c17 hm
              refine lv_aload_n hx hb dX5_casesSo_126 rfl (lv_at hl 1 rfl) ?_
              refine va_get (D := (dC, dI)) (ci := 5) (v := .ref a_stack) (C := RX5) (T := TX5) (N := 2) hx hb hts iX5 hown hK hP 0 rfl rfl 1 (by decide) f20 (fun _ h9 => h9) rfl dX5_casesSo_127 ?_
              refine lv_iload hx hb dX5_casesSo_130 (lv_at hl 5 rfl) ?_
              refine lv_iload hx hb dX5_casesSo_132 (lv_at hl 0 rfl) ?_
              obtain ⟨r18, ho19, hm⟩ := bd1_s hm
              refine kb_calli (Rv := r18) (va_runS (As := [.int r8]) (rest := [.int x2, .ref a_stack]) ⟨hx, hb, hml, hown, hts⟩ (c_X5_simpleOf l dC dI cI cJ cZ cQ t H.size r8 (r18) ho19) (va_cwS 1 hts gX5_casesSo_X5_simpleOf rfl rfl rfl (by decide +kernel) ⟨(Nat.le_of_ble_eq_true rfl), (Nat.le_of_ble_eq_true rfl)⟩) (kb_pre hK hG hP (kb_D hD rfl) hS hA [] rfl (by decide)) rfl rfl hl.1 rfl (lv_room (Nat.le_of_ble_eq_true rfl)) dX5_casesSo_134 ⟨Nat.zero_le _, Nat.zero_le _⟩) hP (kb_D hD rfl) hS hA [] rfl [(false, 0), (false, 1), (false, 2), (false, 3)] (w2 := [oX5 a_th (.ref a_letters) (.ref a_stack), oX3 a_letters (.ref a_letters_bytes) (.int v_letters_length), aI cI a_letters_bytes n_letters_bytes v_letters_bytes, aI cI a_stack 16 w4]) rfl (by decide) (fun H locs hP hS => ?_)
              refine lv_iload_n hx hb dX5_casesSo_137 rfl (lv_at hl 2 rfl) ?_
              refine lv_iload_n hx hb dX5_casesSo_138 rfl (lv_at hl 3 rfl) ?_
              refine lv_iload_n hx hb dX5_casesSo_139 rfl (lv_at hl 4 rfl) ?_
              obtain ⟨r20, ho21, hm⟩ := bd1_s hm
              refine kb_calli (Rv := r20) (va_runS (As := [.int r18, .int p_1, .int p_2, .int p_3]) (rest := [.int x2, .ref a_stack]) ⟨hx, hb, hml, hown, hts⟩ (c_X6_casesSo l dC dI cI cJ cZ cQ t H.size r18 p_1 p_2 p_3 (r20) ho21) (va_cwS 4 hts gX5_casesSo_X6_casesSo rfl rfl rfl (by decide +kernel) ⟨(Nat.le_of_ble_eq_true rfl), (Nat.le_of_ble_eq_true rfl)⟩) (kb_pre hK hG hP (kb_D hD rfl) hS hA [] rfl (by decide)) rfl rfl hl.1 rfl (lv_room (Nat.le_of_ble_eq_true rfl)) dX5_casesSo_140 ⟨Nat.zero_le _, Nat.zero_le _⟩) hP (kb_D hD rfl) hS hA [] rfl [(false, 0), (false, 1), (false, 2), (false, 3)] (w2 := [oX5 a_th (.ref a_letters) (.ref a_stack), oX3 a_letters (.ref a_letters_bytes) (.int v_letters_length), aI cI a_letters_bytes n_letters_bytes v_letters_bytes, aI cI a_stack 16 w4]) rfl (by decide) (fun H locs hP hS => ?_)
              obtain ⟨h22, hm⟩ := gd_s hm
              refine va_iast hx hb hK hP (kb_D hD rfl) hS 3 0 rfl rfl (inB_s h22) dX5_casesSo_143 (fun H locs hP _ hS => ?_)
              have hP : va_P (dC, dI) vwCl [oX5 a_th (.ref a_letters) (.ref a_stack), oX3 a_letters (.ref a_letters_bytes) (.int v_letters_length), aI cI a_letters_bytes n_letters_bytes v_letters_bytes, aI cI a_stack 16 (upd w4 (Int32.toNatClampNeg x2) r20)] H := hP
              obtain ⟨x23, ex23⟩ : ∃ y : Int32, y = x2 + (1 : Int32) := ⟨_, rfl⟩
              replace hm := nm_t ex23 hm
              refine lv_iinc (v := x23) (lv' := [(4, .int x23), (6, .int r8), (0, .ref a_th), (1, .int p_1), (2, .int p_2), (3, .int p_3), (5, .int x3)]) hx hb dX5_casesSo_144 hl (k := 5) rfl (by rw [ex23]; rfl) (by decide) rfl (fun ls hl => ?_)
              exact J147 x23 (upd w4 (Int32.toNatClampNeg x2) r20) _ _ _ hm hP hS (lv_sub hl [2, 3, 4, 5, 0, 6] rfl)
          · replace hm := ite_f c16 hm
            refine lv_iload hx hb dX5_casesSo_74 (lv_at hl 5 rfl) ?_
            refine lv_iconst (v := (2 : Int32)) hx hb dX5_casesSo_76 (by decide) ?_
            refine lv_icmp_lt (tgt := 147) hx hb dX5_casesSo_77 (by decide) (fun c24 => ?_) (fun c24 => ?_)
            · replace hm := ite_t c24 hm
              exact J147 x2 w4 _ _ _ hm hP hS (lv_sub hl [1, 2, 3, 4, 5, 6] rfl)
            · replace hm := ite_f c24 hm
              obtain ⟨x25, ex25⟩ : ∃ y : Int32, y = x2 + (-1 : Int32) := ⟨_, rfl⟩
              replace hm := nm_t ex25 hm
              refine lv_iinc (v := x25) (lv' := [(4, .int x25), (6, .int r8), (0, .ref a_th), (1, .int p_1), (2, .int p_2), (3, .int p_3), (5, .int x3)]) hx hb dX5_casesSo_80 hl (k := 5) rfl (by rw [ex25]; rfl) (by decide) rfl (fun ls hl => ?_)
              refine lv_aload_n hx hb dX5_casesSo_83 rfl (lv_at hl 2 rfl) ?_
              refine va_get (D := (dC, dI)) (ci := 5) (v := .ref a_stack) (C := RX5) (T := TX5) (N := 2) hx hb hts iX5 hown hK hP 0 rfl rfl 1 (by decide) f20 (fun _ h9 => h9) rfl dX5_casesSo_84 ?_
              refine lv_iload hx hb dX5_casesSo_87 (lv_at hl 0 rfl) ?_
              refine lv_iconst (v := (1 : Int32)) hx hb dX5_casesSo_89 (by decide) ?_
              refine lv_isub hx hb dX5_casesSo_90 ?_
              refine lv_iload hx hb dX5_casesSo_91 (lv_at hl 1 rfl) ?_
              refine lv_aload_n hx hb dX5_casesSo_93 rfl (lv_at hl 2 rfl) ?_
              refine va_get (D := (dC, dI)) (ci := 5) (v := .ref a_stack) (C := RX5) (T := TX5) (N := 2) hx hb hts iX5 hown hK hP 0 rfl rfl 1 (by decide) f20 (fun _ h9 => h9) rfl dX5_casesSo_94 ?_
              refine lv_iload hx hb dX5_casesSo_97 (lv_at hl 0 rfl) ?_
              obtain ⟨h26, hm⟩ := gd_s hm
              refine va_iald hx hb hK hP 3 0 rfl rfl (inB_s h26) dX5_casesSo_99 ?_
              refine lv_aload_n hx hb dX5_casesSo_100 rfl (lv_at hl 2 rfl) ?_
              refine va_get (D := (dC, dI)) (ci := 5) (v := .ref a_stack) (C := RX5) (T := TX5) (N := 2) hx hb hts iX5 hown hK hP 0 rfl rfl 1 (by decide) f20 (fun _ h9 => h9) rfl dX5_casesSo_101 ?_
              refine lv_iload hx hb dX5_casesSo_104 (lv_at hl 0 rfl) ?_
              refine lv_iconst (v := (1 : Int32)) hx hb dX5_casesSo_106 (by decide) ?_
              refine lv_isub hx hb dX5_casesSo_107 ?_
              obtain ⟨h27, hm⟩ := gd_s hm
              refine va_iald hx hb hK hP 3 0 rfl rfl (inB_s h27) dX5_casesSo_108 ?_
              obtain ⟨r28, ho29, hm⟩ := bd1_s hm
              refine kb_calli (Rv := r28) (va_runS (As := [.int r8, .int (w4 (Int32.toNatClampNeg x25)), .int (w4 (Int32.toNatClampNeg (x25 - (1 : Int32))))]) (rest := [.int (x25 - (1 : Int32)), .ref a_stack]) ⟨hx, hb, hml, hown, hts⟩ (c_X5_joined l dC dI cI cJ cZ cQ t H.size r8 (w4 (Int32.toNatClampNeg x25)) (w4 (Int32.toNatClampNeg (x25 - (1 : Int32)))) (r28) ho29) (va_cwS 3 hts gX5_casesSo_X5_joined rfl rfl rfl (by decide +kernel) ⟨(Nat.le_of_ble_eq_true rfl), (Nat.le_of_ble_eq_true rfl)⟩) (kb_pre hK hG hP (kb_D hD rfl) hS hA [] rfl (by decide)) rfl rfl hl.1 rfl (lv_room (Nat.le_of_ble_eq_true rfl)) dX5_casesSo_109 ⟨Nat.zero_le _, Nat.zero_le _⟩) hP (kb_D hD rfl) hS hA [] rfl [(false, 0), (false, 1), (false, 2), (false, 3)] (w2 := [oX5 a_th (.ref a_letters) (.ref a_stack), oX3 a_letters (.ref a_letters_bytes) (.int v_letters_length), aI cI a_letters_bytes n_letters_bytes v_letters_bytes, aI cI a_stack 16 w4]) rfl (by decide) (fun H locs hP hS => ?_)
              obtain ⟨h30, hm⟩ := gd_s hm
              refine va_iast hx hb hK hP (kb_D hD rfl) hS 3 0 rfl rfl (inB_s h30) dX5_casesSo_112 (fun H locs hP _ hS => ?_)
              have hP : va_P (dC, dI) vwCl [oX5 a_th (.ref a_letters) (.ref a_stack), oX3 a_letters (.ref a_letters_bytes) (.int v_letters_length), aI cI a_letters_bytes n_letters_bytes v_letters_bytes, aI cI a_stack 16 (upd w4 (Int32.toNatClampNeg (x25 - (1 : Int32))) r28)] H := hP
              refine lv_goto (tgt := 147) hx hb dX5_casesSo_113 (by decide) ?_
              exact J147 x25 (upd w4 (Int32.toNatClampNeg (x25 - (1 : Int32))) r28) _ _ _ hm hP hS (lv_sub hl [2, 3, 4, 5, 0, 6] rfl)
        · replace hm := ite_t c13 hm
          refine lv_iload hx hb dX5_casesSo_37 (lv_at hl 5 rfl) ?_
          refine lv_iconst (v := (1 : Int32)) hx hb dX5_casesSo_39 (by decide) ?_
          refine lv_icmp_lt (tgt := 147) hx hb dX5_casesSo_40 (by decide) (fun c31 => ?_) (fun c31 => ?_)
          · replace hm := ite_t c31 hm
            exact J147 x2 w4 _ _ _ hm hP hS (lv_sub hl [1, 2, 3, 4, 5, 6] rfl)
          · replace hm := ite_f c31 hm
            refine lv_aload_n hx hb dX5_casesSo_43 rfl (lv_at hl 1 rfl) ?_
            refine va_get (D := (dC, dI)) (ci := 5) (v := .ref a_stack) (C := RX5) (T := TX5) (N := 2) hx hb hts iX5 hown hK hP 0 rfl rfl 1 (by decide) f20 (fun _ h9 => h9) rfl dX5_casesSo_44 ?_
            refine lv_iload hx hb dX5_casesSo_47 (lv_at hl 5 rfl) ?_
            refine lv_iconst (v := (1 : Int32)) hx hb dX5_casesSo_49 (by decide) ?_
            refine lv_isub hx hb dX5_casesSo_50 ?_
            refine lv_aload_n hx hb dX5_casesSo_51 rfl (lv_at hl 1 rfl) ?_
            refine va_get (D := (dC, dI)) (ci := 5) (v := .ref a_stack) (C := RX5) (T := TX5) (N := 2) hx hb hts iX5 hown hK hP 0 rfl rfl 1 (by decide) f20 (fun _ h9 => h9) rfl dX5_casesSo_52 ?_
            refine lv_iload hx hb dX5_casesSo_55 (lv_at hl 5 rfl) ?_
            refine lv_iconst (v := (1 : Int32)) hx hb dX5_casesSo_57 (by decide) ?_
            refine lv_isub hx hb dX5_casesSo_58 ?_
            obtain ⟨h32, hm⟩ := gd_s hm
            refine va_iald hx hb hK hP 3 0 rfl rfl (inB_s h32) dX5_casesSo_59 ?_
            refine lv_iconst (v := (-1 : Int32)) hx hb dX5_casesSo_60 (by decide) ?_
            refine lv_ixor hx hb dX5_casesSo_61 ?_
            refine lv_topi (fun x33 ex33 => ?_)
            replace hm := nm_t ex33 hm
            obtain ⟨h34, hm⟩ := gd_s hm
            refine va_iast hx hb hK hP (kb_D hD rfl) hS 3 0 rfl rfl (inB_s h34) dX5_casesSo_62 (fun H locs hP _ hS => ?_)
            have hP : va_P (dC, dI) vwCl [oX5 a_th (.ref a_letters) (.ref a_stack), oX3 a_letters (.ref a_letters_bytes) (.int v_letters_length), aI cI a_letters_bytes n_letters_bytes v_letters_bytes, aI cI a_stack 16 (upd w4 (Int32.toNatClampNeg (x2 - (1 : Int32))) x33)] H := hP
            refine lv_goto (tgt := 147) hx hb dX5_casesSo_63 (by decide) ?_
            exact J147 x2 (upd w4 (Int32.toNatClampNeg (x2 - (1 : Int32))) x33) _ _ _ hm hP hS (lv_sub hl [1, 2, 3, 4, 5, 6] rfl)
  refine lp14 1024 (0 : Int32) x1 v_stack _ _ _ _ hm (fun x5 w6 H locs ls hm hP hS hl => ?_) hP hS (lv_sub hl [2, 3, 4, 5, 1, 0] rfl)
  refine lv_iload hx hb dX5_casesSo_153 (lv_at hl 1 rfl) ?_
  refine lv_iconst (v := (1 : Int32)) hx hb dX5_casesSo_155 (by decide) ?_
  refine lv_icmp_lt (tgt := 171) hx hb dX5_casesSo_156 (by decide) (fun c35 => ?_) (fun c35 => ?_)
  · replace hm := ite_t c35 hm
    refine lv_iconst (v := (0 : Int32)) hx hb dX5_casesSo_171 (by decide) ?_
    obtain rfl := Option.some.inj hm
    subst hQ
    exact W.iret hx hb hr (fun t ht hW => ⟨⟨_, (), rfl, rfl, kb_h hP ht⟩, hS.F ht⟩) hS.2.2 dX5_casesSo_172
  · replace hm := ite_f c35 hm
    refine lv_aload_n hx hb dX5_casesSo_159 rfl (lv_at hl 0 rfl) ?_
    refine va_get (D := (dC, dI)) (ci := 5) (v := .ref a_stack) (C := RX5) (T := TX5) (N := 2) hx hb hts iX5 hown hK hP 0 rfl rfl 1 (by decide) f20 (fun _ h9 => h9) rfl dX5_casesSo_160 ?_
    refine lv_iload hx hb dX5_casesSo_163 (lv_at hl 1 rfl) ?_
    refine lv_iconst (v := (1 : Int32)) hx hb dX5_casesSo_165 (by decide) ?_
    refine lv_isub hx hb dX5_casesSo_166 ?_
    obtain ⟨h36, hm⟩ := gd_s hm
    refine va_iald hx hb hK hP 3 0 rfl rfl (inB_s h36) dX5_casesSo_167 ?_
    refine lv_goto (tgt := 172) hx hb dX5_casesSo_168 (by decide) ?_
    obtain rfl := Option.some.inj hm
    subst hQ
    exact W.iret hx hb hr (fun t ht hW => ⟨⟨_, (), rfl, rfl, kb_h hP ht⟩, hS.F ht⟩) hS.2.2 dX5_casesSo_172
set_option maxHeartbeats 4000000 in
set_option maxRecDepth 100000 in
theorem c_X9_casesGiving (l : Launch) (dC : Nat → ClassId) (dI : Nat → Nat → Nat) (cI cJ cZ cQ : ClassId) (t sz : Nat) (p_0 : Int32) (p_1 : Int32) (p_2 : Int32) (p_3 : Int32) (o : Int32) (hm : m_X9_casesGiving p_0 p_1 p_2 p_3 = some o) : Met l yX9_casesGiving wsX9_casesGiving { frames := 0, cells := 0, slots := 0, locals := 0 } (va_Pc [.int p_0, .int p_1, .int p_2, .int p_3] (cP (dC, dI) (kT cI cJ cZ cQ) t sz [])) (cQi (dC, dI) (va_A [] sz) o []) 0 0 (va_A [] sz) := by
  refine Met.ofW (cc := cX9_casesGiving) (maxL := 6) (ret := (some .int)) (by decide) rfl ?_
  intro p e s m args below meth c s₁ B hml hv
  obtain ⟨rfl, hsz, hP, hK, hD0, hG⟩ := hv
  have hx := B.exec
  have hb := B.bytes
  have hr := B.returns
  have hts := atoms_spec (ws := wsX9_casesGiving) B.pre
  have hown : s.vm.findClass RX9 = some m.cls := findClass_of_methodNamed B.named
  have hlocks := B.notSynchronized
  subst hsz
  have hD := hD0.self (sz := s.heap.size)
  generalize hAe : va_A [] s.heap.size = A at hD hG ⊢
  have hA : ∀ q : Nat, s.heap.size ≤ q → A q := fun q h => by rw [← hAe]; exact Or.inr h
  have hS : va_S A s.heap s.heap [] := va_S.rf
  have hl := lv_entry ([.int p_0, .int p_1, .int p_2, .int p_3]) (n := 6) (Nat.le_of_ble_eq_true rfl)
  rw [lg_entry_eq]
  generalize (lg_sl ([.int p_0, .int p_1, .int p_2, .int p_3]) ++ List.replicate (6 - (lg_sl ([.int p_0, .int p_1, .int p_2, .int p_3])).length) Slot.unset).toArray = ls at hl ⊢
  have hl : lv_has ls 6 [(0, .int p_0), (1, .int p_1), (2, .int p_2), (3, .int p_3)] := hl
  refine kb_gen (fun Q hQ => ?_)
  unfold m_X9_casesGiving at hm
  refine lv_iload_n hx hb dX9_casesGiving_0 rfl (lv_at hl 3 rfl) ?_
  obtain ⟨k11, ek11, hm⟩ := nm_s hm
  have J11 : ∀ (x1 : Int32) (H : Heap) (locs : List Loc) (ls : Array Slot), k11 x1 = some o → va_P (dC, dI) vwCl [] H → va_S A s.heap H locs → lv_has ls 6 [(0, .int p_0), (2, .int p_2), (3, .int p_3)] → W p l e (headSpec wsX9_casesGiving { frames := 0, cells := 0, slots := 0, locals := 0 }).room s m [.int p_0, .int p_1, .int p_2, .int p_3].toArray below meth c H locs 0 0 Q (F0 m 11 ls [.int x1]) := by
    intro x1 H locs ls hm hP hS hl
    rw [ek11] at hm
    refine lv_istore (lv' := [(4, .int x1), (0, .int p_0), (2, .int p_2), (3, .int p_3)]) hx hb dX9_casesGiving_11 hl (by decide) rfl (fun ls hl => ?_)
    refine lv_iload_n hx hb dX9_casesGiving_13 rfl (lv_at hl 1 rfl) ?_
    refine lv_iconst (v := (1 : Int32)) hx hb dX9_casesGiving_14 (by decide) ?_
    refine lv_icmp_ne (tgt := 21) hx hb dX9_casesGiving_15 (by decide) (fun c2 => ?_) (fun c2 => ?_)
    · replace hm := ite_f c2 hm
      refine lv_iload hx hb dX9_casesGiving_21 (lv_at hl 0 rfl) ?_
      refine lv_iconst (v := (-1 : Int32)) hx hb dX9_casesGiving_23 (by decide) ?_
      refine lv_ixor hx hb dX9_casesGiving_24 ?_
      refine lv_iload_n hx hb dX9_casesGiving_25 rfl (lv_at hl 3 rfl) ?_
      obtain ⟨k36, ek36, hm⟩ := nm_s hm
      have J36 : ∀ (x3 : Int32) (H : Heap) (locs : List Loc) (ls : Array Slot), k36 x3 = some o → va_P (dC, dI) vwCl [] H → va_S A s.heap H locs → lv_has ls 6 [(0, .int p_0), (4, .int x1)] → W p l e (headSpec wsX9_casesGiving { frames := 0, cells := 0, slots := 0, locals := 0 }).room s m [.int p_0, .int p_1, .int p_2, .int p_3].toArray below meth c H locs 0 0 Q (F0 m 36 ls [.int x3, .int (x1 ^^^ (-1 : Int32))]) := by
        intro x3 H locs ls hm hP hS hl
        rw [ek36] at hm
        refine lv_iand hx hb dX9_casesGiving_36 ?_
        refine lv_topi (fun x4 ex4 => ?_)
        replace hm := nm_t ex4 hm
        refine lv_istore (lv' := [(5, .int x4), (0, .int p_0), (4, .int x1)]) hx hb dX9_casesGiving_37 hl (by decide) rfl (fun ls hl => ?_)
        refine lv_iload_n hx hb dX9_casesGiving_39 rfl (lv_at hl 1 rfl) ?_
        refine lv_if_ne (tgt := 48) hx hb dX9_casesGiving_40 (by decide) (fun c5 => ?_) (fun c5 => ?_)
        · replace hm := ite_f c5 hm
          refine lv_iload hx hb dX9_casesGiving_48 (lv_at hl 2 rfl) ?_
          refine lv_iload hx hb dX9_casesGiving_50 (lv_at hl 0 rfl) ?_
          refine lv_ior hx hb dX9_casesGiving_52 ?_
          refine lv_iconst (v := (-1 : Int32)) hx hb dX9_casesGiving_53 (by decide) ?_
          refine lv_ixor hx hb dX9_casesGiving_54 ?_
          obtain rfl := Option.some.inj hm
          subst hQ
          exact W.iret hx hb hr (fun t ht hW => ⟨⟨_, (), rfl, rfl, kb_h hP ht⟩, hS.F ht⟩) hS.2.2 dX9_casesGiving_55
        · replace hm := ite_t c5 hm
          refine lv_iload hx hb dX9_casesGiving_43 (lv_at hl 0 rfl) ?_
          refine lv_goto (tgt := 55) hx hb dX9_casesGiving_45 (by decide) ?_
          obtain rfl := Option.some.inj hm
          subst hQ
          exact W.iret hx hb hr (fun t ht hW => ⟨⟨_, (), rfl, rfl, kb_h hP ht⟩, hS.F ht⟩) hS.2.2 dX9_casesGiving_55
      refine lv_if_eq (tgt := 35) hx hb dX9_casesGiving_26 (by decide) (fun c6 => ?_) (fun c6 => ?_)
      · replace hm := ite_t c6 hm
        refine lv_iload_n hx hb dX9_casesGiving_35 rfl (lv_at hl 2 rfl) ?_
        exact J36 p_2 _ _ _ hm hP hS (lv_sub hl [1, 0] rfl)
      · replace hm := ite_f c6 hm
        refine lv_iload_n hx hb dX9_casesGiving_29 rfl (lv_at hl 2 rfl) ?_
        refine lv_iconst (v := (-1 : Int32)) hx hb dX9_casesGiving_30 (by decide) ?_
        refine lv_ixor hx hb dX9_casesGiving_31 ?_
        refine lv_goto (tgt := 36) hx hb dX9_casesGiving_32 (by decide) ?_
        exact J36 (p_2 ^^^ (-1 : Int32)) _ _ _ hm hP hS (lv_sub hl [1, 0] rfl)
    · replace hm := ite_t c2 hm
      refine lv_iload hx hb dX9_casesGiving_18 (lv_at hl 0 rfl) ?_
      obtain rfl := Option.some.inj hm
      subst hQ
      exact W.iret hx hb hr (fun t ht hW => ⟨⟨_, (), rfl, rfl, kb_h hP ht⟩, hS.F ht⟩) hS.2.2 dX9_casesGiving_20
  refine lv_if_eq (tgt := 8) hx hb dX9_casesGiving_1 (by decide) (fun c7 => ?_) (fun c7 => ?_)
  · replace hm := ite_t c7 hm
    refine lv_iload_n hx hb dX9_casesGiving_8 rfl (lv_at hl 1 rfl) ?_
    refine lv_iconst (v := (-1 : Int32)) hx hb dX9_casesGiving_9 (by decide) ?_
    refine lv_ixor hx hb dX9_casesGiving_10 ?_
    exact J11 (p_1 ^^^ (-1 : Int32)) _ _ _ hm hP hS (lv_sub hl [0, 2, 3] rfl)
  · replace hm := ite_f c7 hm
    refine lv_iload_n hx hb dX9_casesGiving_4 rfl (lv_at hl 1 rfl) ?_
    refine lv_goto (tgt := 11) hx hb dX9_casesGiving_5 (by decide) ?_
    exact J11 p_1 _ _ _ hm hP hS (lv_sub hl [0, 2, 3] rfl)
set_option maxHeartbeats 4000000 in
set_option maxRecDepth 100000 in
theorem c_X5_casesAnswered (l : Launch) (dC : Nat → ClassId) (dI : Nat → Nat → Nat) (cI cJ cZ cQ : ClassId) (t sz : Nat) (a_th : Nat) (a_letters : Nat) (a_letters_bytes : Nat) (a_stack : Nat) (n_letters_bytes : Nat) (v_letters_length : Int32) (v_letters_bytes : (Nat → Int32)) (v_stack : (Nat → Int32)) (p_1 : Int32) (p_2 : Int32) (p_3 : Int32) (p_4 : Int32) (o : Int32 × (Nat → Int32)) (hm : m_X5_casesAnswered p_1 p_2 p_3 p_4 n_letters_bytes v_letters_length v_letters_bytes v_stack = some o) : Met l yX5_casesAnswered wsX5_casesAnswered { frames := 3, cells := 0, slots := 0, locals := 71 } (va_Pc [.ref a_th, .int p_1, .int p_2, .int p_3, .int p_4] (cP (dC, dI) (kT cI cJ cZ cQ) t sz [oX5 a_th (.ref a_letters) (.ref a_stack), oX3 a_letters (.ref a_letters_bytes) (.int v_letters_length), aI cI a_letters_bytes n_letters_bytes v_letters_bytes, aI cI a_stack 16 v_stack])) (cQi (dC, dI) (va_A [oX5 a_th (.ref a_letters) (.ref a_stack), oX3 a_letters (.ref a_letters_bytes) (.int v_letters_length), aI cI a_letters_bytes n_letters_bytes v_letters_bytes, aI cI a_stack 16 v_stack] sz) o.1 [oX5 a_th (.ref a_letters) (.ref a_stack), oX3 a_letters (.ref a_letters_bytes) (.int v_letters_length), aI cI a_letters_bytes n_letters_bytes v_letters_bytes, aI cI a_stack 16 (o.2)]) 0 0 (va_A [oX5 a_th (.ref a_letters) (.ref a_stack), oX3 a_letters (.ref a_letters_bytes) (.int v_letters_length), aI cI a_letters_bytes n_letters_bytes v_letters_bytes, aI cI a_stack 16 v_stack] sz) := by
  refine Met.ofW (cc := cX5_casesAnswered) (maxL := 5) (ret := (some .int)) (by decide) rfl ?_
  intro p e s m args below meth c s₁ B hml hv
  obtain ⟨rfl, hsz, hP, hK, hD0, hG⟩ := hv
  have hx := B.exec
  have hb := B.bytes
  have hr := B.returns
  have hts := atoms_spec (ws := wsX5_casesAnswered) B.pre
  have hown : s.vm.findClass RX5 = some m.cls := findClass_of_methodNamed B.named
  have hlocks := B.notSynchronized
  subst hsz
  have hD := hD0.self (sz := s.heap.size)
  generalize hAe : va_A [oX5 a_th (.ref a_letters) (.ref a_stack), oX3 a_letters (.ref a_letters_bytes) (.int v_letters_length), aI cI a_letters_bytes n_letters_bytes v_letters_bytes, aI cI a_stack 16 v_stack] s.heap.size = A at hD hG ⊢
  have hA : ∀ q : Nat, s.heap.size ≤ q → A q := fun q h => by rw [← hAe]; exact Or.inr h
  have hS : va_S A s.heap s.heap [] := va_S.rf
  have hl := lv_entry ([.ref a_th, .int p_1, .int p_2, .int p_3, .int p_4]) (n := 5) (Nat.le_of_ble_eq_true rfl)
  rw [lg_entry_eq]
  generalize (lg_sl ([.ref a_th, .int p_1, .int p_2, .int p_3, .int p_4]) ++ List.replicate (5 - (lg_sl ([.ref a_th, .int p_1, .int p_2, .int p_3, .int p_4])).length) Slot.unset).toArray = ls at hl ⊢
  have hl : lv_has ls 5 [(0, .ref a_th), (1, .int p_1), (2, .int p_2), (3, .int p_3), (4, .int p_4)] := hl
  have iX5 : ∀ w ∈ wsX50, w ∈ wsX5_casesAnswered := fun _ h => List.mem_cons_of_mem _ (List.mem_append_left _ (List.mem_append_right _ h))
  have iX3 : ∀ w ∈ wsX30, w ∈ wsX5_casesAnswered := fun _ h => List.mem_cons_of_mem _ (List.mem_append_right _ h)
  have nl60 := (hG.2.1 (RX5, 60, yX9_casesGiving) (by decide +kernel) : va_Nw (.methodLinkNest RX5 60 yX9_casesGiving "TrueOnceWeek") s)
  have ni60 := hts (.initialized RX9) (by decide +kernel)
  have ns60 := hts (.static yX9_casesGiving) (by decide +kernel)
  refine kb_gen (fun Q hQ => ?_)
  unfold m_X5_casesAnswered at hm
  refine lv_iload_n hx hb dX5_casesAnswered_0 rfl (lv_at hl 1 rfl) ?_
  refine lv_aload_n hx hb dX5_casesAnswered_1 rfl (lv_at hl 0 rfl) ?_
  refine lv_iconst (v := (1 : Int32)) hx hb dX5_casesAnswered_2 (by decide) ?_
  refine lv_iload_n hx hb dX5_casesAnswered_3 rfl (lv_at hl 2 rfl) ?_
  refine lv_iload_n hx hb dX5_casesAnswered_4 rfl (lv_at hl 3 rfl) ?_
  obtain ⟨r1, w2, ho3, hm⟩ := bd2_s hm
  refine kb_calli (Rv := r1) (va_runV (As := [.int (1 : Int32), .int p_2, .int p_3]) (rest := [.int p_1]) ⟨hx, hb, hml, hown, hts⟩ (c_X5_casesSo l dC dI cI cJ cZ cQ t s.heap.size a_th a_letters a_letters_bytes a_stack n_letters_bytes v_letters_length v_letters_bytes v_stack (1 : Int32) p_2 p_3 (r1, w2) ho3) (cwV 3 hts gX5_casesAnswered_X5_casesSo rfl rfl rfl (by decide +kernel) ⟨(Nat.le_of_ble_eq_true rfl), (Nat.le_of_ble_eq_true rfl)⟩) ⟨(kb_pre hK hG hP (kb_D hD rfl) hS hA [0, 1, 2, 3] rfl (by decide)).1, (va_recv hK hP (ci := 5) (q0 := 0) rfl rfl), (kb_pre hK hG hP (kb_D hD rfl) hS hA [0, 1, 2, 3] rfl (by decide)).2⟩ rfl rfl hl.1 rfl (lv_room (Nat.le_of_ble_eq_true rfl)) dX5_casesAnswered_5 ⟨Nat.zero_le _, Nat.zero_le _⟩) hP (kb_D hD rfl) hS hA [0, 1, 2, 3] rfl [(true, 0), (true, 1), (true, 2), (true, 3)] (w2 := [oX5 a_th (.ref a_letters) (.ref a_stack), oX3 a_letters (.ref a_letters_bytes) (.int v_letters_length), aI cI a_letters_bytes n_letters_bytes v_letters_bytes, aI cI a_stack 16 w2]) rfl (by decide) (fun H locs hP hS => ?_)
  refine lv_aload_n hx hb dX5_casesAnswered_8 rfl (lv_at hl 0 rfl) ?_
  refine lv_iconst (v := (0 : Int32)) hx hb dX5_casesAnswered_9 (by decide) ?_
  refine lv_iload_n hx hb dX5_casesAnswered_10 rfl (lv_at hl 2 rfl) ?_
  refine lv_iload_n hx hb dX5_casesAnswered_11 rfl (lv_at hl 3 rfl) ?_
  obtain ⟨r4, w5, ho6, hm⟩ := bd2_s hm
  refine kb_calli (Rv := r4) (va_runV (As := [.int (0 : Int32), .int p_2, .int p_3]) (rest := [.int r1, .int p_1]) ⟨hx, hb, hml, hown, hts⟩ (c_X5_casesSo l dC dI cI cJ cZ cQ t H.size a_th a_letters a_letters_bytes a_stack n_letters_bytes v_letters_length v_letters_bytes w2 (0 : Int32) p_2 p_3 (r4, w5) ho6) (cwV 3 hts gX5_casesAnswered_X5_casesSo rfl rfl rfl (by decide +kernel) ⟨(Nat.le_of_ble_eq_true rfl), (Nat.le_of_ble_eq_true rfl)⟩) ⟨(kb_pre hK hG hP (kb_D hD rfl) hS hA [0, 1, 2, 3] rfl (by decide)).1, (va_recv hK hP (ci := 5) (q0 := 0) rfl rfl), (kb_pre hK hG hP (kb_D hD rfl) hS hA [0, 1, 2, 3] rfl (by decide)).2⟩ rfl rfl hl.1 rfl (lv_room (Nat.le_of_ble_eq_true rfl)) dX5_casesAnswered_12 ⟨Nat.zero_le _, Nat.zero_le _⟩) hP (kb_D hD rfl) hS hA [0, 1, 2, 3] rfl [(true, 0), (true, 1), (true, 2), (true, 3)] (w2 := [oX5 a_th (.ref a_letters) (.ref a_stack), oX3 a_letters (.ref a_letters_bytes) (.int v_letters_length), aI cI a_letters_bytes n_letters_bytes v_letters_bytes, aI cI a_stack 16 w5]) rfl (by decide) (fun H locs hP hS => ?_)
  refine lv_iload_n hx hb dX5_casesAnswered_15 rfl (lv_at hl 2 rfl) ?_
  refine lv_iload_n hx hb dX5_casesAnswered_16 rfl (lv_at hl 3 rfl) ?_
  refine lv_iload hx hb dX5_casesAnswered_17 (lv_at hl 4 rfl) ?_
  refine lv_iadd hx hb dX5_casesAnswered_19 ?_
  refine lv_bipush (v := (7 : Int32)) hx hb dX5_casesAnswered_20 (by decide) ?_
  refine lv_irem hx hb dX5_casesAnswered_22 (by decide) ?_
  obtain ⟨k31, ek31, hm⟩ := nm_s hm
  have J31 : ∀ (x7 : Int32) (H : Heap) (locs : List Loc) (ls : Array Slot), k31 x7 = some o → va_P (dC, dI) vwCl [oX5 a_th (.ref a_letters) (.ref a_stack), oX3 a_letters (.ref a_letters_bytes) (.int v_letters_length), aI cI a_letters_bytes n_letters_bytes v_letters_bytes, aI cI a_stack 16 w5] H → va_S A s.heap H locs → lv_has ls 5 [] → W p l e (headSpec wsX5_casesAnswered { frames := 3, cells := 0, slots := 0, locals := 71 }).room s m [.ref a_th, .int p_1, .int p_2, .int p_3, .int p_4].toArray below meth c H locs 0 0 Q (F0 m 31 ls [.int x7, .int r4, .int r1, .int p_1]) := by
    intro x7 H locs ls hm hP hS hl
    rw [ek31] at hm
    obtain ⟨r8, ho9, hm⟩ := bd1_s hm
    refine kb_calli (Rv := r8) (va_runSN (As := [.int p_1, .int r1, .int r4, .int x7]) (rest := []) ⟨hx, hb, hml, hown, hts⟩ (c_X9_casesGiving l dC dI cI cJ cZ cQ t H.size p_1 r1 r4 x7 (r8) ho9) ⟨va_cnB (ret := (some .int)) (maxL := 6) 4 hts gX5_casesAnswered_X9_casesGiving_n60 rfl rfl rfl nl60 ni60 (by decide +kernel) ⟨(Nat.le_of_ble_eq_true rfl), (Nat.le_of_ble_eq_true rfl)⟩, ns60, trivial⟩ (kb_pre hK hG hP (kb_D hD rfl) hS hA [] rfl (by decide)) rfl rfl hl.1 rfl (lv_room (Nat.le_of_ble_eq_true rfl)) dX5_casesAnswered_31 ⟨Nat.zero_le _, Nat.zero_le _⟩) hP (kb_D hD rfl) hS hA [] rfl [(false, 0), (false, 1), (false, 2), (false, 3)] (w2 := [oX5 a_th (.ref a_letters) (.ref a_stack), oX3 a_letters (.ref a_letters_bytes) (.int v_letters_length), aI cI a_letters_bytes n_letters_bytes v_letters_bytes, aI cI a_stack 16 w5]) rfl (by decide) (fun H locs hP hS => ?_)
    obtain rfl := Option.some.inj hm
    subst hQ
    exact W.iret hx hb hr (fun t ht hW => ⟨⟨_, (), rfl, rfl, kb_h hP ht⟩, hS.F ht⟩) hS.2.2 dX5_casesAnswered_34
  refine lv_icmp_ne (tgt := 30) hx hb dX5_casesAnswered_23 (by decide) (fun c10 => ?_) (fun c10 => ?_)
  · replace hm := ite_f c10 hm
    refine lv_iconst (v := (0 : Int32)) hx hb dX5_casesAnswered_30 (by decide) ?_
    exact J31 (0 : Int32) _ _ _ hm hP hS (lv_sub hl [] rfl)
  · replace hm := ite_t c10 hm
    refine lv_iconst (v := (1 : Int32)) hx hb dX5_casesAnswered_26 (by decide) ?_
    refine lv_goto (tgt := 31) hx hb dX5_casesAnswered_27 (by decide) ?_
    exact J31 (1 : Int32) _ _ _ hm hP hS (lv_sub hl [] rfl)
