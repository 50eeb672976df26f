/-! counting bits -/
theorem m_ushr_nat {a b : Nat} (ha : a < 2147483648) (hb : ((Int32.ofInt (b : Int)).toUInt32 &&& Int32.toUInt32 31).toNat = b) (hb2 : b < 32) : m_ushr (a : Int) (b : Int) = ((a / 2 ^ b : Nat) : Int) := by
  unfold m_ushr
  refine i32_nat ?_ (Nat.lt_of_le_of_lt (Nat.div_le_self _ _) ha)
  show ((Int32.ofInt (a : Int)).toUInt32 >>> ((Int32.ofInt (b : Int)).toUInt32 &&& Int32.toUInt32 31)).toNat = _
  rw [UInt32.toNat_shiftRight, hb, Nat.mod_eq_of_lt hb2, Nat.shiftRight_eq_div_pow]
  congr 1
  exact of_nat_bv (by omega)
theorem and_split {k p q r t : Nat} (hq : q < 2 ^ k) (ht : t < 2 ^ k) : (2 ^ k * p + q) &&& (2 ^ k * r + t) = 2 ^ k * (p &&& r) + (q &&& t) := by
  have hqt : q &&& t < 2 ^ k := Nat.lt_of_le_of_lt Nat.and_le_left hq
  apply Nat.eq_of_testBit_eq
  intro j
  rw [Nat.testBit_and, Nat.testBit_two_pow_mul_add _ hq, Nat.testBit_two_pow_mul_add _ ht, Nat.testBit_two_pow_mul_add _ hqt]
  split
  · rw [Nat.testBit_and]
  · rw [Nat.testBit_and]
def g1 (a : Nat) : Nat := a - (a / 2 &&& 0x55)
def g2 (a : Nat) : Nat := (a &&& 0x33) + (a / 4 &&& 0x33)
def pc8 (a : Nat) : Nat := (g2 (g1 a) + g2 (g1 a) / 16) % 16
theorem and_bytes {a b c r s t : Nat} (ha : a < 256) (hb : b < 256) (hr : r < 256) (hs : s < 256) : (65536 * c + 256 * b + a) &&& (65536 * t + 256 * s + r) = 65536 * (c &&& t) + 256 * (b &&& s) + (a &&& r) := by
  have h1 := and_split (k := 8) (p := 256 * c + b) (q := a) (r := 256 * t + s) (t := r) (by omega) (by omega)
  have h2 := and_split (k := 8) (p := c) (q := b) (r := t) (t := s) (by omega) (by omega)
  simp only [show (2 : Nat) ^ 8 = 256 by decide] at h1 h2
  rw [show 65536 * c + 256 * b + a = 256 * (256 * c + b) + a by omega, show 65536 * t + 256 * s + r = 256 * (256 * t + s) + r by omega, h1, h2]
  omega
theorem tabs : (List.range 256).all (fun a => decide (((a / 2) &&& 0x55) = ((128 + a / 2) &&& 0x55)) && decide ((a / 2 &&& 0x55) ≤ a) && decide ((a / 2 &&& 0x5555) = (a / 2 &&& 0x55)) && decide (((64 + a / 4) &&& 0x33) = (a / 4 &&& 0x33)) && decide (((128 + a / 4) &&& 0x33) = (a / 4 &&& 0x33)) && decide (((192 + a / 4) &&& 0x33) = (a / 4 &&& 0x33)) && decide ((a &&& 0x3333) = (a &&& 0x33)) && decide ((a / 4 &&& 0x3333) = (a / 4 &&& 0x33)) && decide (g2 (g1 a) % 16 ≤ 4 ∧ g2 (g1 a) / 16 ≤ 4) && decide (g1 a < 256) && decide (g2 a < 256) && decide (((cn (fun i => Nat.testBit a i) 8) : Int) = (pc8 a : Nat)) && decide (pc8 a ≤ 8)) = true := by decide +kernel
theorem tab {a : Nat} (ha : a < 256) : ((a / 2) &&& 0x55) = ((128 + a / 2) &&& 0x55) ∧ (a / 2 &&& 0x55) ≤ a ∧ (a / 2 &&& 0x5555) = (a / 2 &&& 0x55) ∧ ((64 + a / 4) &&& 0x33) = (a / 4 &&& 0x33) ∧ ((128 + a / 4) &&& 0x33) = (a / 4 &&& 0x33) ∧ ((192 + a / 4) &&& 0x33) = (a / 4 &&& 0x33) ∧ (a &&& 0x3333) = (a &&& 0x33) ∧ (a / 4 &&& 0x3333) = (a / 4 &&& 0x33) ∧ (g2 (g1 a) % 16 ≤ 4 ∧ g2 (g1 a) / 16 ≤ 4) ∧ g1 a < 256 ∧ g2 a < 256 ∧ ((cn (fun i => Nat.testBit a i) 8) : Int) = (pc8 a : Nat) ∧ pc8 a ≤ 8 := by
  have h1 := List.all_eq_true.mp tabs a (List.mem_range.mpr ha)
  simp only [Bool.and_eq_true, decide_eq_true_eq] at h1
  obtain ⟨⟨⟨⟨⟨⟨⟨⟨⟨⟨⟨⟨h1, h2⟩, h3⟩, h4⟩, h5⟩, h6⟩, h7⟩, h8⟩, h9⟩, h10⟩, h11⟩, h12⟩, h13⟩ := h1
  exact ⟨h1, h2, h3, h4, h5, h6, h7, h8, h9, h10, h11, h12, h13⟩
theorem bc_1 {a b c : Nat} (ha : a < 256) (hb : b < 256) (hc : c < 256) : ((65536 * c + 256 * b + a) / 2 &&& 1431655765) ≤ 65536 * c + 256 * b + a ∧ (65536 * c + 256 * b + a) - ((65536 * c + 256 * b + a) / 2 &&& 1431655765) = 65536 * g1 c + 256 * g1 b + g1 a := by
  have ta := tab ha
  have tb := tab hb
  have tc := tab hc
  have e : (65536 * c + 256 * b + a) / 2 &&& 1431655765 = 65536 * (c / 2 &&& 0x55) + 256 * (b / 2 &&& 0x55) + (a / 2 &&& 0x55) := by
    rw [show (65536 * c + 256 * b + a) / 2 = 65536 * (c / 2) + 256 * (128 * (c % 2) + b / 2) + (128 * (b % 2) + a / 2) by omega, show 1431655765 = 65536 * 0x5555 + 256 * 0x55 + 0x55 by decide, and_bytes (by omega) (by omega) (by decide) (by decide), tc.2.2.1]
    have e1 : ∀ x : Nat, (128 * (x % 2) + b / 2 &&& 0x55) = (b / 2 &&& 0x55) := by
      intro x
      have : x % 2 = 0 ∨ x % 2 = 1 := by omega
      rcases this with q | q <;> rw [q]
      · simp
      · exact tb.1.symm
    have e2 : ∀ x : Nat, (128 * (x % 2) + a / 2 &&& 0x55) = (a / 2 &&& 0x55) := by
      intro x
      have : x % 2 = 0 ∨ x % 2 = 1 := by omega
      rcases this with q | q <;> rw [q]
      · simp
      · exact ta.1.symm
    rw [e1, e2]
  rw [e]
  unfold g1
  omega
theorem bc_2 {a b c : Nat} (ha : a < 256) (hb : b < 256) (hc : c < 256) : ((65536 * c + 256 * b + a) &&& 858993459) + ((65536 * c + 256 * b + a) / 4 &&& 858993459) = 65536 * g2 c + 256 * g2 b + g2 a := by
  have ta := tab ha
  have tb := tab hb
  have tc := tab hc
  rw [show (65536 * c + 256 * b + a) / 4 = 65536 * (c / 4) + 256 * (64 * (c % 4) + b / 4) + (64 * (b % 4) + a / 4) by omega, show 858993459 = 65536 * 0x3333 + 256 * 0x33 + 0x33 by decide, and_bytes ha hb (by decide) (by decide), and_bytes (by omega) (by omega) (by decide) (by decide), tc.2.2.2.2.2.2.1, tc.2.2.2.2.2.2.2.1]
  have e1 : ∀ x : Nat, (64 * (x % 4) + b / 4 &&& 0x33) = (b / 4 &&& 0x33) := by
    intro x
    have : x % 4 = 0 ∨ x % 4 = 1 ∨ x % 4 = 2 ∨ x % 4 = 3 := by omega
    rcases this with q | q | q | q <;> rw [q]
    · simp
    · exact tb.2.2.2.1
    · exact tb.2.2.2.2.1
    · exact tb.2.2.2.2.2.1
  have e2 : ∀ x : Nat, (64 * (x % 4) + a / 4 &&& 0x33) = (a / 4 &&& 0x33) := by
    intro x
    have : x % 4 = 0 ∨ x % 4 = 1 ∨ x % 4 = 2 ∨ x % 4 = 3 := by omega
    rcases this with q | q | q | q <;> rw [q]
    · simp
    · exact ta.2.2.2.1
    · exact ta.2.2.2.2.1
    · exact ta.2.2.2.2.2.1
  rw [e1, e2]
  unfold g2
  omega
theorem and15 (x : Nat) : x &&& 0xf = x % 16 := Nat.and_two_pow_sub_one_eq_mod x 4
theorem and0f0f {x : Nat} (hx : x < 256) : x &&& 0x0f0f = x % 16 := by
  have h : (List.range 256).all (fun x => decide ((x &&& 0x0f0f) = x % 16)) = true := by decide +kernel
  exact of_decide_eq_true (List.all_eq_true.mp h x (List.mem_range.mpr hx))
theorem bc_3 {a b c : Nat} (ha : a < 256) (hb : b < 256) (hc : c < 256) (a4 : a % 16 ≤ 4 ∧ a / 16 ≤ 4) (b4 : b % 16 ≤ 4 ∧ b / 16 ≤ 4) (c4 : c % 16 ≤ 4 ∧ c / 16 ≤ 4) : ((65536 * c + 256 * b + a) + (65536 * c + 256 * b + a) / 16) &&& 252645135 = 65536 * ((c + c / 16) % 16) + 256 * ((b + b / 16) % 16) + (a + a / 16) % 16 := by
  rw [show (65536 * c + 256 * b + a) + (65536 * c + 256 * b + a) / 16 = 65536 * (c + c / 16) + 256 * (b + 16 * (c % 16) + b / 16) + (a + 16 * (b % 16) + a / 16) by omega, show 252645135 = 65536 * 0x0f0f + 256 * 0xf + 0xf by decide, and_bytes (by omega) (by omega) (by decide) (by decide), and15, and15, and0f0f (by omega)]
  omega
theorem and63 (x : Nat) : x &&& 63 = x % 64 := Nat.and_two_pow_sub_one_eq_mod x 6
theorem cn_shift {p : Nat → Bool} {m : Nat} : ∀ k : Nat, cn p (m + k) = cn p m + cn (fun i => p (m + i)) k
  | 0 => by simp [cn]
  | k + 1 => by
    rw [show m + (k + 1) = (m + k) + 1 by omega]
    simp only [cn]
    rw [cn_shift k]
    omega
theorem cn_bits {a b c : Nat} (ha : a < 256) (hb : b < 256) (hc : c < 256) : cn (fun i => bit ((65536 * c + 256 * b + a : Nat) : Int) i) 24 = ((pc8 a + pc8 b + pc8 c : Nat) : Int) := by
  have t8 := fun x => Nat.testBit_two_pow_mul_add (a := x) (i := 8) (b := a) (by omega)
  have u8 := Nat.testBit_two_pow_mul_add (a := c) (i := 8) (b := b) (by omega)
  simp only [show (2 : Nat) ^ 8 = 256 by decide] at t8 u8
  have hx : 65536 * c + 256 * b + a = 256 * (256 * c + b) + a := by omega
  have hbit : ∀ i : Nat, bit ((65536 * c + 256 * b + a : Nat) : Int) i = if i < 8 then a.testBit i else if i - 8 < 8 then b.testBit (i - 8) else c.testBit (i - 8 - 8) := by
    intro i
    unfold bit
    rw [Int.toNat_natCast, Int.toNat_natCast, hx, t8, u8]
  have e0 : cn (fun i => bit ((65536 * c + 256 * b + a : Nat) : Int) i) 24 = cn (fun i => if i < 8 then a.testBit i else if i - 8 < 8 then b.testBit (i - 8) else c.testBit (i - 8 - 8)) 24 := cn_congr (fun i _ => hbit i)
  rw [e0, show 24 = 8 + (8 + 8) by rfl, cn_shift, cn_shift]
  have f1 : cn (fun i => if i < 8 then a.testBit i else if i - 8 < 8 then b.testBit (i - 8) else c.testBit (i - 8 - 8)) 8 = cn (fun i => a.testBit i) 8 := cn_congr (fun i hi => by rw [if_pos hi])
  have f2 : cn (fun i => if 8 + i < 8 then a.testBit (8 + i) else if 8 + i - 8 < 8 then b.testBit (8 + i - 8) else c.testBit (8 + i - 8 - 8)) 8 = cn (fun i => b.testBit i) 8 := cn_congr (fun i hi => by rw [if_neg (by omega), if_pos (by omega), show 8 + i - 8 = i by omega])
  have f3 : cn (fun i => if 8 + (8 + i) < 8 then a.testBit (8 + (8 + i)) else if 8 + (8 + i) - 8 < 8 then b.testBit (8 + (8 + i) - 8) else c.testBit (8 + (8 + i) - 8 - 8)) 8 = cn (fun i => c.testBit i) 8 := cn_congr (fun i hi => by rw [if_neg (by omega), if_neg (by omega), show 8 + (8 + i) - 8 - 8 = i by omega])
  rw [f1, f2, f3, (tab ha).2.2.2.2.2.2.2.2.2.2.2.1, (tab hb).2.2.2.2.2.2.2.2.2.2.2.1, (tab hc).2.2.2.2.2.2.2.2.2.2.2.1]
  omega
theorem fin63 {p q r : Nat} (hp : p ≤ 8) (hq : q ≤ 8) (hr : r ≤ 8) : (65536 * r + 256 * q + p + (65536 * r + 256 * q + p) / 256 + (65536 * r + 256 * q + p + (65536 * r + 256 * q + p) / 256) / 65536) % 64 = p + q + r := by
  have e1 : (65536 * r + 256 * q + p) / 256 = 256 * r + q := by omega
  rw [e1]
  have e2 : (65536 * r + 256 * q + p + (256 * r + q)) / 65536 = r := by omega
  rw [e2]
  omega
theorem C_bitCount {H : mH} {x : Int} (hx : 0 ≤ x ∧ x ≤ 16777215) : Call 0 162 [mI x] H (mI (cn (fun i => bit x i) 24)) H := by
  obtain ⟨a, b, c, ha, hb, hc, rfl⟩ : ∃ a b c : Nat, a < 256 ∧ b < 256 ∧ c < 256 ∧ x = ((65536 * c + 256 * b + a : Nat) : Int) := ⟨x.toNat % 256, x.toNat / 256 % 256, x.toNat / 65536, by omega, by omega, by omega, by omega⟩
  rw [cn_bits ha hb hc]
  have ta := tab ha
  have tb := tab hb
  have tc := tab hc
  have s1 := bc_1 ha hb hc
  have s2 := bc_2 ta.2.2.2.2.2.2.2.2.2.1 tb.2.2.2.2.2.2.2.2.2.1 tc.2.2.2.2.2.2.2.2.2.1
  have ga := (tab ta.2.2.2.2.2.2.2.2.2.1).2.2.2.2.2.2.2.2.2.2.1
  have gb := (tab tb.2.2.2.2.2.2.2.2.2.1).2.2.2.2.2.2.2.2.2.2.1
  have gc := (tab tc.2.2.2.2.2.2.2.2.2.1).2.2.2.2.2.2.2.2.2.2.1
  have s3 := bc_3 ga gb gc ta.2.2.2.2.2.2.2.2.1 tb.2.2.2.2.2.2.2.2.1 tc.2.2.2.2.2.2.2.2.1
  have k1 := ta.2.2.2.2.2.2.2.2.2.2.2.2
  have k2 := tb.2.2.2.2.2.2.2.2.2.2.2.2
  have k3 := tc.2.2.2.2.2.2.2.2.2.2.2.2
  generalize hX : 65536 * c + 256 * b + a = X at s1
  generalize hY : 65536 * g1 c + 256 * g1 b + g1 a = Y at s1 s2
  generalize hZ : 65536 * g2 (g1 c) + 256 * g2 (g1 b) + g2 (g1 a) = Z at s2 s3
  have s3' : (Z + Z / 16) &&& 252645135 = 65536 * pc8 c + 256 * pc8 b + pc8 a := s3
  generalize hV : 65536 * pc8 c + 256 * pc8 b + pc8 a = V at s3'
  have hX2 : X < 16777216 := by omega
  have hY2 : Y ≤ 16777216 := by omega
  have hZ2 : Z < 16777216 := by omega
  have hV2 : V < 16777216 := by omega
  have q1 : m_ushr (X : Int) 1 = ((X / 2 : Nat) : Int) := m_ushr_nat (b := 1) (by omega) (by decide) (by decide)
  have q2 : m_and ((X / 2 : Nat) : Int) 1431655765 = ((X / 2 &&& 1431655765 : Nat) : Int) := m_and_nat (b := 1431655765) (by omega) (by decide)
  have q3 : (X : Int) - ((X / 2 &&& 1431655765 : Nat) : Int) = (Y : Int) := by omega
  have q4 : m_and (Y : Int) 858993459 = ((Y &&& 858993459 : Nat) : Int) := m_and_nat (b := 858993459) (by omega) (by decide)
  have q5 : m_ushr (Y : Int) 2 = ((Y / 4 : Nat) : Int) := m_ushr_nat (b := 2) (by omega) (by decide) (by decide)
  have q6 : m_and ((Y / 4 : Nat) : Int) 858993459 = ((Y / 4 &&& 858993459 : Nat) : Int) := m_and_nat (b := 858993459) (by omega) (by decide)
  have q7 : ((Y &&& 858993459 : Nat) : Int) + ((Y / 4 &&& 858993459 : Nat) : Int) = (Z : Int) := by omega
  have q8 : m_ushr (Z : Int) 4 = ((Z / 16 : Nat) : Int) := m_ushr_nat (b := 4) (by omega) (by decide) (by decide)
  have q9 : m_and ((Z : Int) + ((Z / 16 : Nat) : Int)) 252645135 = (V : Int) := by
    rw [show (Z : Int) + ((Z / 16 : Nat) : Int) = ((Z + Z / 16 : Nat) : Int) by omega]
    have := m_and_nat (a := Z + Z / 16) (b := 252645135) (by omega) (by decide)
    rw [s3'] at this
    exact this
  have q10 : m_ushr (V : Int) 8 = ((V / 256 : Nat) : Int) := m_ushr_nat (b := 8) (by omega) (by decide) (by decide)
  have q11 : m_ushr ((V : Int) + ((V / 256 : Nat) : Int)) 16 = (((V + V / 256) / 65536 : Nat) : Int) := by
    rw [show (V : Int) + ((V / 256 : Nat) : Int) = ((V + V / 256 : Nat) : Int) by omega]
    exact m_ushr_nat (b := 16) (by omega) (by decide) (by decide)
  have q12 : m_and ((V : Int) + ((V / 256 : Nat) : Int) + (((V + V / 256) / 65536 : Nat) : Int)) 63 = ((pc8 a + pc8 b + pc8 c : Nat) : Int) := by
    rw [show (V : Int) + ((V / 256 : Nat) : Int) + (((V + V / 256) / 65536 : Nat) : Int) = ((V + V / 256 + (V + V / 256) / 65536 : Nat) : Int) by omega]
    have := m_and_nat (a := V + V / 256 + (V + V / 256) / 65536) (b := 63) (by omega) (by decide)
    rw [and63] at this
    refine this.trans ?_
    rw [← hV, fin63 k1 k2 k3]
  refine Call_of rfl ?_
  refine E_iload_n (pc' := 1) g162_0 rfl rfl ?_
  refine E_iload_n (pc' := 2) g162_1 rfl rfl ?_
  refine E_iconst (pc' := 3) g162_2 (by decide) rfl ?_
  refine E_iushr (pc' := 4) g162_3 rfl ?_
  rw [q1]
  refine E_ldcw (pc' := 7) (v := 1431655765) g162_4 (by decide +kernel) (by decide) rfl ?_
  refine E_iand (pc' := 8) g162_7 rfl ?_
  rw [q2]
  refine E_isub (pc' := 9) g162_8 (m_in_iff.mpr (by omega)) rfl ?_
  rw [q3]
  refine E_st0 (pc' := 10) g162_9 rfl ?_
  refine E_iload_n (pc' := 11) g162_10 rfl rfl ?_
  refine E_ldcw (pc' := 14) (v := 858993459) g162_11 (by decide +kernel) (by decide) rfl ?_
  refine E_iand (pc' := 15) g162_14 rfl ?_
  rw [q4]
  refine E_iload_n (pc' := 16) g162_15 rfl rfl ?_
  refine E_iconst (pc' := 17) g162_16 (by decide) rfl ?_
  refine E_iushr (pc' := 18) g162_17 rfl ?_
  rw [q5]
  refine E_ldcw (pc' := 21) (v := 858993459) g162_18 (by decide +kernel) (by decide) rfl ?_
  refine E_iand (pc' := 22) g162_21 rfl ?_
  rw [q6]
  refine E_iadd (pc' := 23) g162_22 (m_in_iff.mpr (by omega)) rfl ?_
  rw [q7]
  refine E_st0 (pc' := 24) g162_23 rfl ?_
  refine E_iload_n (pc' := 25) g162_24 rfl rfl ?_
  refine E_iload_n (pc' := 26) g162_25 rfl rfl ?_
  refine E_iconst (pc' := 27) g162_26 (by decide) rfl ?_
  refine E_iushr (pc' := 28) g162_27 rfl ?_
  rw [q8]
  refine E_iadd (pc' := 29) g162_28 (m_in_iff.mpr (by omega)) rfl ?_
  refine E_ldcw (pc' := 32) (v := 252645135) g162_29 (by decide +kernel) (by decide) rfl ?_
  refine E_iand (pc' := 33) g162_32 rfl ?_
  rw [q9]
  refine E_st0 (pc' := 34) g162_33 rfl ?_
  refine E_iload_n (pc' := 35) g162_34 rfl rfl ?_
  refine E_iload_n (pc' := 36) g162_35 rfl rfl ?_
  refine E_bipush (pc' := 38) g162_36 (by decide) rfl ?_
  refine E_iushr (pc' := 39) g162_38 rfl ?_
  rw [q10]
  refine E_iadd (pc' := 40) g162_39 (m_in_iff.mpr (by omega)) rfl ?_
  refine E_st0 (pc' := 41) g162_40 rfl ?_
  refine E_iload_n (pc' := 42) g162_41 rfl rfl ?_
  refine E_iload_n (pc' := 43) g162_42 rfl rfl ?_
  refine E_bipush (pc' := 45) g162_43 (by decide) rfl ?_
  refine E_iushr (pc' := 46) g162_45 rfl ?_
  rw [q11]
  refine E_iadd (pc' := 47) g162_46 (m_in_iff.mpr (by omega)) rfl ?_
  refine E_st0 (pc' := 48) g162_47 rfl ?_
  refine E_iload_n (pc' := 49) g162_48 rfl rfl ?_
  refine E_bipush (pc' := 51) g162_49 (by decide) rfl ?_
  refine E_iand (pc' := 52) g162_51 rfl ?_
  rw [q12]
  exact E_iret g162_52 ro162 rfl rfl
