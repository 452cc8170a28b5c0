-- the bits of a number counted in fields
def tn (x : Int32) : Nat := x.toBitVec.toNat
theorem tn_lt (x : Int32) : tn x < 4294967296 := x.toBitVec.isLt
theorem tn_inj {x y : Int32} (h : tn x = tn y) : x = y := Int32.toBitVec_inj.mp (BitVec.eq_of_toNat_eq h)
theorem tn_nI {n : Nat} (h : n < 4294967296) : tn (nI n) = n := pk_tn h
theorem tn_add {x y : Int32} (h : tn x + tn y < 4294967296) : tn (x + y) = tn x + tn y := by
  unfold tn at *
  rw [Int32.toBitVec_add, BitVec.toNat_add, Nat.mod_eq_of_lt h]
theorem tn_sub {x y : Int32} (h : tn y ≤ tn x) : tn (x - y) = tn x - tn y := by
  have h1 := tn_lt x
  unfold tn at *
  rw [Int32.toBitVec_sub, BitVec.toNat_sub]
  omega
theorem tn_and (x y : Int32) : tn (x &&& y) = tn x &&& tn y := by
  unfold tn
  rw [Int32.toBitVec_and, BitVec.toNat_and]
theorem tn_shr (x s : Int32) (k : Nat) (hs : ((s.toUInt32 &&& Int32.toUInt32 31).toBitVec % 32).toNat = k) : tn (j_iushr x s) = tn x / 2 ^ k := pk_ushr x s k hs
theorem land_split (a b m n : Nat) (hb : b < 256) (hn : n < 256) : (256 * a + b) &&& (256 * m + n) = 256 * (a &&& m) + (b &&& n) := by
  apply Nat.eq_of_testBit_eq
  intro i
  have hbn : b &&& n < 2 ^ 8 := Nat.lt_of_le_of_lt Nat.and_le_left (by omega)
  rw [Nat.testBit_and, show 256 * a + b = 2 ^ 8 * a + b by omega, show 256 * m + n = 2 ^ 8 * m + n by omega, show 256 * (a &&& m) + (b &&& n) = 2 ^ 8 * (a &&& m) + (b &&& n) by omega,
    Nat.testBit_two_pow_mul_add _ (by omega), Nat.testBit_two_pow_mul_add _ (by omega), Nat.testBit_two_pow_mul_add _ hbn]
  by_cases h : i < 8
  · simp [h]
  · simp [h]
theorem land4 {a0 a1 a2 a3 b : Nat} (h0 : a0 < 256) (h1 : a1 < 256) (h2 : a2 < 256) (h3 : a3 < 256) (hb : b < 256) :
    (a0 + 256 * a1 + 65536 * a2 + 16777216 * a3) &&& (b + 256 * b + 65536 * b + 16777216 * b) = (a0 &&& b) + 256 * (a1 &&& b) + 65536 * (a2 &&& b) + 16777216 * (a3 &&& b) := by
  have e3 := land_split 0 a3 0 b h3 hb
  have e2 := land_split a3 a2 b b h2 hb
  have e1 := land_split (256 * a3 + a2) a1 (256 * b + b) b h1 hb
  have e0 := land_split (256 * (256 * a3 + a2) + a1) a0 (256 * (256 * b + b) + b) b h0 hb
  rw [e1, e2] at e0
  rw [show a0 + 256 * a1 + 65536 * a2 + 16777216 * a3 = 256 * (256 * (256 * a3 + a2) + a1) + a0 by omega, show b + 256 * b + 65536 * b + 16777216 * b = 256 * (256 * (256 * b + b) + b) + b by omega, e0]
  omega
/-- one byte, the first three stages -/
def s1 (b : Nat) : Nat := b - ((b / 2) &&& 85)
def s2 (b : Nat) : Nat := (b &&& 51) + ((b / 4) &&& 51)
def s3 (b : Nat) : Nat := (b + b / 16) &&& 15
theorem s1_c : ∀ b, b < 256 → ∀ c, c < 2 → ((b / 2 + 128 * c) &&& 85) = ((b / 2) &&& 85) ∧ ((b / 2) &&& 85) ≤ b := by decide +kernel
theorem s1_d : ∀ b, b < 256 → s1 b < 256 ∧ s1 b % 4 ≤ 2 ∧ s1 b / 4 % 4 ≤ 2 ∧ s1 b / 16 % 4 ≤ 2 ∧ s1 b / 64 ≤ 2 := by decide +kernel
theorem s2_c : ∀ b, b < 256 → ∀ c, c < 4 → ((b / 4 + 64 * c) &&& 51) = ((b / 4) &&& 51) := by decide +kernel
theorem s2_d : ∀ b, b < 256 → s2 (s1 b) < 256 ∧ s2 (s1 b) % 16 ≤ 4 ∧ s2 (s1 b) / 16 ≤ 4 := by decide +kernel
theorem s3_c : ∀ b, b < 256 → ∀ c, c < 5 → ((s2 (s1 b) + (s2 (s1 b) / 16 + 16 * c)) &&& 15) = s3 (s2 (s1 b)) ∧ s2 (s1 b) + (s2 (s1 b) / 16 + 16 * c) < 256 := by decide +kernel
theorem s3_d : ∀ b, b < 256 → s3 (s2 (s1 b)) = fb_ct (fun k => b.testBit k) 8 ∧ s3 (s2 (s1 b)) ≤ 8 := by decide +kernel
theorem bt_tn (x : Int32) (i : Nat) : bt x i = (tn x).testBit i := rfl
theorem tb_byte {X b i k : Nat} (h : X / 2 ^ i % 256 = b) (hk : k < 8) : X.testBit (i + k) = b.testBit k := by
  rw [← h, show (256 : Nat) = 2 ^ 8 from rfl, Nat.testBit_mod_two_pow, Nat.testBit_div_two_pow]
  simp [hk, Nat.add_comm]
theorem m_bitCount (x : Int32) : m_J6_bitCount_0f7a4 x = some (nI (fb_ct (bt x) 32)) := by
  obtain ⟨X, hX⟩ : ∃ X, X = tn x := ⟨_, rfl⟩
  have hlt : X < 4294967296 := hX ▸ tn_lt x
  obtain ⟨b0, hb0⟩ : ∃ b, b = X % 256 := ⟨_, rfl⟩
  obtain ⟨b1, hb1⟩ : ∃ b, b = X / 256 % 256 := ⟨_, rfl⟩
  obtain ⟨b2, hb2⟩ : ∃ b, b = X / 65536 % 256 := ⟨_, rfl⟩
  obtain ⟨b3, hb3⟩ : ∃ b, b = X / 16777216 := ⟨_, rfl⟩
  have l0 : b0 < 256 := by omega
  have l1 : b1 < 256 := by omega
  have l2 : b2 < 256 := by omega
  have l3 : b3 < 256 := by omega
  have eX : X = b0 + 256 * b1 + 65536 * b2 + 16777216 * b3 := by omega
  unfold m_J6_bitCount_0f7a4
  simp only [nm_eq]
  -- first stage
  obtain ⟨x1, hx1⟩ : ∃ x1, x1 = x - (j_iushr x 1 &&& 1431655765) := ⟨_, rfl⟩
  have A : tn (j_iushr x 1 &&& 1431655765) = ((b0 / 2) &&& 85) + 256 * ((b1 / 2) &&& 85) + 65536 * ((b2 / 2) &&& 85) + 16777216 * ((b3 / 2) &&& 85) := by
    rw [tn_and, tn_shr x 1 1 (by decide), ← hX, show tn 1431655765 = 85 + 256 * 85 + 65536 * 85 + 16777216 * 85 by decide,
      show X / 2 ^ 1 = (b0 / 2 + 128 * (b1 % 2)) + 256 * (b1 / 2 + 128 * (b2 % 2)) + 65536 * (b2 / 2 + 128 * (b3 % 2)) + 16777216 * (b3 / 2) by omega,
      land4 (by omega) (by omega) (by omega) (by omega) (by omega), (s1_c b0 l0 _ (by omega)).1, (s1_c b1 l1 _ (by omega)).1, (s1_c b2 l2 _ (by omega)).1]
  have T1 : tn x1 = s1 b0 + 256 * s1 b1 + 65536 * s1 b2 + 16777216 * s1 b3 := by
    have c0 := (s1_c b0 l0 0 (by omega)).2
    have c1 := (s1_c b1 l1 0 (by omega)).2
    have c2 := (s1_c b2 l2 0 (by omega)).2
    have c3 := (s1_c b3 l3 0 (by omega)).2
    rw [hx1, tn_sub (by rw [A, ← hX, eX]; omega), A, ← hX, eX]
    unfold s1
    omega
  rw [← hx1]
  obtain ⟨m0, m0a, m0b, m0c, m0d⟩ := s1_d b0 l0
  obtain ⟨m1, m1a, m1b, m1c, m1d⟩ := s1_d b1 l1
  obtain ⟨m2, m2a, m2b, m2c, m2d⟩ := s1_d b2 l2
  obtain ⟨m3, m3a, m3b, m3c, m3d⟩ := s1_d b3 l3
  obtain ⟨n0, n0a, n0b⟩ := s2_d b0 l0
  obtain ⟨n1, n1a, n1b⟩ := s2_d b1 l1
  obtain ⟨n2, n2a, n2b⟩ := s2_d b2 l2
  obtain ⟨n3, n3a, n3b⟩ := s2_d b3 l3
  -- second stage
  obtain ⟨x2, hx2⟩ : ∃ x2, x2 = (x1 &&& 858993459) + (j_iushr x1 2 &&& 858993459) := ⟨_, rfl⟩
  have B1 : tn (x1 &&& 858993459) = (s1 b0 &&& 51) + 256 * (s1 b1 &&& 51) + 65536 * (s1 b2 &&& 51) + 16777216 * (s1 b3 &&& 51) := by
    rw [tn_and, T1, show tn 858993459 = 51 + 256 * 51 + 65536 * 51 + 16777216 * 51 by decide, land4 m0 m1 m2 m3 (by omega)]
  have B2 : tn (j_iushr x1 2 &&& 858993459) = ((s1 b0 / 4) &&& 51) + 256 * ((s1 b1 / 4) &&& 51) + 65536 * ((s1 b2 / 4) &&& 51) + 16777216 * ((s1 b3 / 4) &&& 51) := by
    rw [tn_and, tn_shr x1 2 2 (by decide), T1, show tn 858993459 = 51 + 256 * 51 + 65536 * 51 + 16777216 * 51 by decide,
      show (s1 b0 + 256 * s1 b1 + 65536 * s1 b2 + 16777216 * s1 b3) / 2 ^ 2 = (s1 b0 / 4 + 64 * (s1 b1 % 4)) + 256 * (s1 b1 / 4 + 64 * (s1 b2 % 4)) + 65536 * (s1 b2 / 4 + 64 * (s1 b3 % 4)) + 16777216 * (s1 b3 / 4) by omega,
      land4 (by omega) (by omega) (by omega) (by omega) (by omega), s2_c _ m0 _ (by omega), s2_c _ m1 _ (by omega), s2_c _ m2 _ (by omega)]
  have T2 : tn x2 = s2 (s1 b0) + 256 * s2 (s1 b1) + 65536 * s2 (s1 b2) + 16777216 * s2 (s1 b3) := by
    have q0 : s2 (s1 b0) = (s1 b0 &&& 51) + ((s1 b0 / 4) &&& 51) := rfl
    have q1 : s2 (s1 b1) = (s1 b1 &&& 51) + ((s1 b1 / 4) &&& 51) := rfl
    have q2 : s2 (s1 b2) = (s1 b2 &&& 51) + ((s1 b2 / 4) &&& 51) := rfl
    have q3 : s2 (s1 b3) = (s1 b3 &&& 51) + ((s1 b3 / 4) &&& 51) := rfl
    rw [hx2, tn_add (by rw [B1, B2]; omega), B1, B2]
    omega
  rw [← hx2]
  -- third stage
  obtain ⟨x3, hx3⟩ : ∃ x3, x3 = (x2 + j_iushr x2 4) &&& 252645135 := ⟨_, rfl⟩
  have p0 := s3_c b0 l0 (s2 (s1 b1) % 16) (by omega)
  have p1 := s3_c b1 l1 (s2 (s1 b2) % 16) (by omega)
  have p2 := s3_c b2 l2 (s2 (s1 b3) % 16) (by omega)
  have p3 := s3_c b3 l3 0 (by omega)
  have C1 : tn (x2 + j_iushr x2 4) = (s2 (s1 b0) + (s2 (s1 b0) / 16 + 16 * (s2 (s1 b1) % 16))) + 256 * (s2 (s1 b1) + (s2 (s1 b1) / 16 + 16 * (s2 (s1 b2) % 16))) + 65536 * (s2 (s1 b2) + (s2 (s1 b2) / 16 + 16 * (s2 (s1 b3) % 16))) + 16777216 * (s2 (s1 b3) + (s2 (s1 b3) / 16 + 16 * 0)) := by
    rw [tn_add (by rw [tn_shr x2 4 4 (by decide), T2]; omega), tn_shr x2 4 4 (by decide), T2]
    omega
  have T3 : tn x3 = s3 (s2 (s1 b0)) + 256 * s3 (s2 (s1 b1)) + 65536 * s3 (s2 (s1 b2)) + 16777216 * s3 (s2 (s1 b3)) := by
    rw [hx3, tn_and, C1, show tn 252645135 = 15 + 256 * 15 + 65536 * 15 + 16777216 * 15 by decide, land4 p0.2 p1.2 p2.2 p3.2 (by omega), p0.1, p1.1, p2.1, p3.1]
  rw [← hx3]
  obtain ⟨r0, t0⟩ := s3_d b0 l0
  obtain ⟨r1, t1⟩ := s3_d b1 l1
  obtain ⟨r2, t2⟩ := s3_d b2 l2
  obtain ⟨r3, t3⟩ := s3_d b3 l3
  generalize s3 (s2 (s1 b0)) = e0 at *
  generalize s3 (s2 (s1 b1)) = e1 at *
  generalize s3 (s2 (s1 b2)) = e2 at *
  generalize s3 (s2 (s1 b3)) = e3 at *
  have T4 : tn (x3 + j_iushr x3 8) = (e0 + e1) + 256 * (e1 + e2) + 65536 * (e2 + e3) + 16777216 * e3 := by
    rw [tn_add (by rw [tn_shr x3 8 8 (by decide), T3]; omega), tn_shr x3 8 8 (by decide), T3]
    omega
  have T5 : tn (x3 + j_iushr x3 8 + j_iushr (x3 + j_iushr x3 8) 16) = (e0 + e1) + 256 * (e1 + e2) + 65536 * (e2 + e3) + 16777216 * e3 + ((e2 + e3) + 256 * e3) := by
    rw [tn_add (by rw [tn_shr _ 16 16 (by decide), T4]; omega), tn_shr _ 16 16 (by decide), T4]
    omega
  have hc : fb_ct (bt x) 32 = e0 + e1 + e2 + e3 := by
    have z : bt x = fun k => X.testBit k := by funext k; rw [bt_tn, hX]
    rw [z, show 32 = 8 + (8 + (8 + 8)) from rfl, fb_ct_split, fb_ct_split, fb_ct_split, r0, r1, r2, r3]
    have y0 : fb_ct (fun k => X.testBit k) 8 = fb_ct (fun k => b0.testBit k) 8 := fb_ct_cong (fun k hk => by rw [← tb_byte (X := X) (b := b0) (i := 0) (by omega) hk, Nat.zero_add])
    have y1 : fb_ct (fun k => X.testBit (8 + k)) 8 = fb_ct (fun k => b1.testBit k) 8 := fb_ct_cong (fun k hk => tb_byte (X := X) (b := b1) (i := 8) (by omega) hk)
    have y2 : fb_ct (fun k => X.testBit (8 + (8 + k))) 8 = fb_ct (fun k => b2.testBit k) 8 := fb_ct_cong (fun k hk => by rw [show 8 + (8 + k) = 16 + k by omega]; exact tb_byte (X := X) (b := b2) (i := 16) (by omega) hk)
    have y3 : fb_ct (fun k => X.testBit (8 + (8 + (8 + k)))) 8 = fb_ct (fun k => b3.testBit k) 8 := fb_ct_cong (fun k hk => by rw [show 8 + (8 + (8 + k)) = 24 + k by omega]; exact tb_byte (X := X) (b := b3) (i := 24) (by omega) hk)
    rw [y0, y1, y2, y3]
    omega
  refine congrArg some (tn_inj ?_)
  rw [hc, tn_nI (by omega), tn_and, T5, show tn 63 = 2 ^ 6 - 1 by decide, Nat.and_two_pow_sub_one_eq_mod]
  omega
