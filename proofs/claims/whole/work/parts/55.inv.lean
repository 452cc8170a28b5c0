def LRel (nf : Nat) (so : Nat) (cm : Int32) (cs : Int32) (tl : Int32) (tb : Nat → Int32) (tx : Nat → Int32) (ql : Int32) (qb : Nat → Int32) (qu : Nat → Int32) (d : Int32) (tr : Int32) (wa : Int32) (cl : Int32) (ck : Int32) (kn : Nat → Int32) (pg : Nat → Int32) (nx : Int32) (ac : Int32) (mo : Nat → Int32) (bk : Nat → Int32) (se : Nat → Int64) (bs : Nat → Int64) (tc : Int32) (ts : Nat → Int32) (td : Nat → Int32) (ta : Nat → Int32) (ms : Nat → Int32) (md : Nat → Int32) (my : Nat → Int32) (ik : Nat → Int32) (mi : Nat → Int32) (km : Nat → Int32) (kp : Nat → Int32) (ye : Nat → Int32) (no : Nat → Int32) (fo : Nat → Int32) : Prop := nf < 6 ∧ so < 2 ^ nf ∧ RCas nf (nI so) cm cs ∧ RText 24 tl tl tb tx ∧ RText 16 ql ql qb qu ∧ RNow nf so d tr wa cl ck kn pg ∧ RActs nf so nx ac ac mo bk se bs ∧ RTold tc tc ts td ta ms md my ∧ RKept nf so ik mi km kp ∧ TabOK nf ye no ∧ FacOK fo
theorem RText_eq {n0 : Nat} {tl tz : Int32} {tb tx : Nat → Int32} (h : RText n0 tl tz tb tx) : tz = tl := by
  obtain ⟨n, L, -, h1, h2, -⟩ := h
  rw [h1, h2]
theorem RText_0 (n0 : Nat) (tb tx : Nat → Int32) : RText n0 0 0 tb tx := ⟨0, fun _ => 0, Nat.zero_le _, rfl, rfl, fun i hi => absurd hi (Nat.not_lt_zero i)⟩
abbrev dz (h : Nat) : Nat × va_E := (h, .inr (0, []))
abbrev dzs (a : Nat → Nat) : va_W := [dz (a 0), dz (a 1), dz (a 2), dz (a 3), dz (a 4), dz (a 5), dz (a 6), dz (a 7), dz (a 8), dz (a 9), dz (a 10), dz (a 11), dz (a 12), dz (a 13), dz (a 14), dz (a 15), dz (a 16), dz (a 17), dz (a 18), dz (a 19), dz (a 20), dz (a 21), dz (a 22), dz (a 23), dz (a 24), dz (a 25), dz (a 26), dz (a 27), dz (a 28), dz (a 29), dz (a 30), dz (a 31), dz (a 32), dz (a 33), dz (a 34), dz (a 35), dz (a 36), dz (a 37), dz (a 38), dz (a 39), dz (a 40), dz (a 41), dz (a 42), dz (a 43), dz (a 44)]
/-- what holds at the head of the loop -/
def LInv (dC : Nat → ClassId) (dI : Nat → Nat → Nat) (cI cJ cZ cQ : ClassId) (a : Nat → Nat) (A : Nat → Prop) (b i : Nat) (s : State) (H : Heap) (locs : List Loc) (ls : Array Slot) : Prop := ∃ (nf so : Nat) (cm cs fd tl ql d tr wa cl ck nx ac tc th pl z1 z2 z3 z4 : Int32) (sd : Int64) (tb tx qb qu s1 kn mo ts td ta l0 l1 l2 l3 ro km ik mw pg bk kp mi ms md my ye no fo st on tw t3 : Nat → Int32) (se bs : Nat → Int64), LRel nf so cm cs tl tb tx ql qb qu d tr wa cl ck kn pg nx ac mo bk se bs tc ts td ta ms md my ik mi km kp ye no fo ∧ va_P (dC, dI) vwCl [oX9 (a 0) (.ref (a 1)) (.ref (a 3)) (.ref (a 7)) (.ref (a 8)) (.ref (a 10)) (.ref (a 13)) (.ref (a 17)) (.ref (a 24)) (.ref (a 25)) (.ref (a 26)) (.long sd), oX3 (a 1) (.ref (a 2)) (.int tl), aI cI (a 2) 24 tb, oX5 (a 3) (.ref (a 4)) (.ref (a 6)), oX3 (a 4) (.ref (a 5)) (.int ql), aI cI (a 5) 16 qb, aI cI (a 6) 16 s1, oX1 (a 7) (.int (nI nf)) (.int (nI so)) (.int cm) (.int cs) (.int fd), oX4 (a 8) (.int d) (.int tr) (.int wa) (.int cl) (.int ck) (.ref (a 9)), aI cI (a 9) 7 kn, oX0 (a 10) (.ref (a 11)) (.ref (a 12)) (.int nx) (.int ac), aI cI (a 11) 120 mo, aJ cJ (a 12) 10 se, oX7 (a 13) (.ref (a 14)) (.ref (a 15)) (.ref (a 16)) (.int tc), aI cI (a 14) 6 ts, aI cI (a 15) 6 td, aI cI (a 16) 6 ta, oX2 (a 17) (.ref (a 18)) (.ref (a 23)), aQ cQ (a 18) 4 (q4 (a 19) (a 20) (a 21) (a 22)), aI cI (a 19) 7 l0, aI cI (a 20) 7 l1, aI cI (a 21) 7 l2, aI cI (a 22) 7 l3, aI cI (a 23) 5 ro, aI cI (a 24) 24 km, aI cZ (a 25) 2 ik, aI cI (a 26) 7 mw, oX10 (a 27) (.int th) (.ref (a 28)) (.int tl) (.int pl) (.ref (a 29)) (.int ql) (.int (nI nf)) (.int (nI so)) (.int cm) (.int z1) (.int z2) (.int z3) (.int z4) (.ref (a 30)) (.long sd) (.ref (a 31)) (.ref (a 32)) (.int ac) (.ref (a 33)) (.ref (a 34)) (.int tc) (.ref (a 35)) (.ref (a 36)) (.ref (a 37)) (.ref (a 38)) (.ref (a 39)) (.ref (a 40)) (.ref (a 41)) (.ref (a 42)) (.ref (a 43)) (.ref (a 44)), aI cI (a 28) 24 tx, aI cI (a 29) 16 qu, aI cI (a 30) 12 pg, aI cI (a 31) 120 bk, aJ cJ (a 32) 10 bs, aI cI (a 33) 24 kp, aI cZ (a 34) 2 mi, aI cI (a 35) 6 ms, aI cI (a 36) 6 md, aI cZ (a 37) 6 my, aI cI (a 38) 931 ye, aI cI (a 39) 931 no, aI cI (a 40) 5 fo, aI cZ (a 41) 17 st, aI cI (a 42) 7 on, aI cI (a 43) 7 tw, aI cI (a 44) 7 t3] H ∧ va_S A s.heap H locs ∧ lv_has ls 4 [(0, .ref b), (1, .ref (a 0)), (2, .ref (a 27)), (3, .int (nI i))]
/-- what stands through the whole loop -/
def LFix (p : Program) (s : State) (m : MethodId) (meth : Method) (c : Code) (b L : Nat) (xs : Nat → Int32) (dC : Nat → ClassId) (dI : Nat → Nat → Nat) (cI cJ cZ cQ : ClassId) (t : Nat) (a : Nat → Nat) (A : Nat → Prop) : Prop := lw_At p s m meth c b L xs ∧ va_K (dC, dI) vwCl (kT cI cJ cZ cQ) s ∧ gx t A s ∧ va_D A (dzs a) ∧ (∀ q, s.heap.size ≤ q → A q) ∧ (∀ q, A q → s.heap.size ≤ q) ∧ L ≤ 2560
theorem lw_in {i L k : Nat} (h : i + 5 ≤ L) (hL : L ≤ 2560) (hk : k < 5) : vp_in (nI i + nI k) L := by
  rw [nI_add]
  exact vp_in_nI (by omega) (by omega)
theorem lw_in0 {i L : Nat} (h : i + 5 ≤ L) (hL : L ≤ 2560) : vp_in (nI i) L := vp_in_nI (by omega) (by omega)
theorem lw_and31 (y : Int32) : ∃ k, k < 32 ∧ y &&& 31 = nI k := by
  refine ⟨(y.toBitVec &&& 31#32).toNat, ?_, ?_⟩
  · rw [BitVec.toNat_and]
    exact Nat.lt_of_le_of_lt Nat.and_le_right (by decide)
  · apply Int32.toBitVec_inj.mp
    rw [Int32.toBitVec_and]
    show y.toBitVec &&& 31#32 = BitVec.ofNat 32 _
    rw [BitVec.ofNat_toNat, BitVec.setWidth_eq]
theorem lw_gt {i L : Nat} (hL : L ≤ 2560) (hi : i ≤ L) (h : ¬ Int32.ofNat L - 5 < nI i) : i + 5 ≤ L := by
  have h : ¬ nI L - nI 5 < nI i := h
  rcases Nat.lt_or_ge L 5 with h5 | h5
  · exact absurd ((by decide : ∀ L, L < 5 → ∀ i, i < 5 → nI L - nI 5 < nI i) L h5 i (by omega)) h
  · rw [pk_sub h5, n_lt _ _ (by omega) (by omega)] at h
    omega
