/-! bits of ints that are no less than 0 -/
theorem i32_nat {x : Int32} {n : Nat} (h : x.toBitVec.toNat = n) (hn : n < 2147483648) : x.toInt = (n : Int) := by
  have h1 : x.toInt = x.toBitVec.toInt := rfl
  rw [h1, BitVec.toInt_eq_toNat_of_lt (by rw [h]; omega), h]
theorem of_nat_bv {n : Nat} (hn : n < 4294967296) : (Int32.ofInt (n : Int)).toBitVec.toNat = n := pk_tn (n := n) (by omega)
theorem m_or_nat {a b : Nat} (ha : a < 2147483648) (hb : b < 2147483648) : m_or (a : Int) (b : Int) = ((a ||| b : Nat) : Int) := by
  have hlt : a ||| b < 2 ^ 31 := Nat.or_lt_two_pow (by omega) (by omega)
  refine i32_nat ?_ (by omega)
  rw [Int32.toBitVec_or, BitVec.toNat_or, of_nat_bv (by omega), of_nat_bv (by omega)]
theorem m_and_nat {a b : Nat} (ha : a < 2147483648) (hb : b < 2147483648) : m_and (a : Int) (b : Int) = ((a &&& b : Nat) : Int) := by
  have hlt : a &&& b ≤ a := Nat.and_le_left
  refine i32_nat ?_ (by omega)
  rw [Int32.toBitVec_and, BitVec.toNat_and, of_nat_bv (by omega), of_nat_bv (by omega)]
theorem m_xor_nat {a b : Nat} (ha : a < 2147483648) (hb : b < 2147483648) : m_xor (a : Int) (b : Int) = ((a ^^^ b : Nat) : Int) := by
  have hlt : a ^^^ b < 2 ^ 31 := Nat.xor_lt_two_pow (by omega) (by omega)
  refine i32_nat ?_ (by omega)
  rw [Int32.toBitVec_xor, BitVec.toNat_xor, of_nat_bv (by omega), of_nat_bv (by omega)]
theorem m_shl_nat : ∀ b : Nat, b < 31 → m_shl 1 (b : Int) = ((2 ^ b : Nat) : Int) := by
  have h : (List.range 31).all (fun b => decide (m_shl 1 (b : Int) = ((2 ^ b : Nat) : Int))) = true := by decide +kernel
  intro b hb
  exact of_decide_eq_true (List.all_eq_true.mp h b (List.mem_range.mpr hb))
theorem m_shl15 : ∀ b : Nat, b < 24 → m_shl 15 (b : Int) = ((15 * 2 ^ b : Nat) : Int) := by
  have h : (List.range 24).all (fun b => decide (m_shl 15 (b : Int) = ((15 * 2 ^ b : Nat) : Int))) = true := by decide +kernel
  intro b hb
  exact of_decide_eq_true (List.all_eq_true.mp h b (List.mem_range.mpr hb))
theorem m_shr_nat {a b : Nat} (ha : a < 2147483648) (hb : b < 31) : m_shr (a : Int) (b : Int) = ((a / 2 ^ b : Nat) : Int) := by
  have hs : ((Int32.ofInt (b : Int) &&& 31).toBitVec.smod 32).toNat = b := by
    have h : (List.range 31).all (fun b => decide (((Int32.ofInt (b : Int) &&& 31).toBitVec.smod 32).toNat = b)) = true := by decide +kernel
    exact of_decide_eq_true (List.all_eq_true.mp h b (List.mem_range.mpr hb))
  unfold m_shr
  have h1 := pk_shrN (n := a) (by omega) (Int32.ofInt (b : Int) &&& 31) b hs
  have h2 : Int32.ofInt (a : Int) = nI a := rfl
  rw [h2, h1]
  exact nI_toInt (Nat.lt_of_le_of_lt (Nat.div_le_self _ _) (by omega))
theorem m_or_in {x z : Int} (hx : 0 ≤ x ∧ x ≤ 16777215) (hz : 0 ≤ z ∧ z ≤ 16777215) : 0 ≤ m_or x z ∧ m_or x z ≤ 16777215 := by
  obtain ⟨a, rfl⟩ : ∃ a : Nat, x = (a : Int) := ⟨x.toNat, by omega⟩
  obtain ⟨b, rfl⟩ : ∃ b : Nat, z = (b : Int) := ⟨z.toNat, by omega⟩
  rw [m_or_nat (by omega) (by omega)]
  have hlt : a ||| b < 2 ^ 24 := Nat.or_lt_two_pow (by omega) (by omega)
  omega
theorem m_and_in {x z : Int} (hx : 0 ≤ x ∧ x ≤ 16777215) (hz : 0 ≤ z ∧ z ≤ 16777215) : 0 ≤ m_and x z ∧ m_and x z ≤ 16777215 := by
  obtain ⟨a, rfl⟩ : ∃ a : Nat, x = (a : Int) := ⟨x.toNat, by omega⟩
  obtain ⟨b, rfl⟩ : ∃ b : Nat, z = (b : Int) := ⟨z.toNat, by omega⟩
  rw [m_and_nat (by omega) (by omega)]
  have hlt : a &&& b ≤ a := Nat.and_le_left
  omega
theorem m_shl_in {b : Int} (h0 : 0 ≤ b) (h : b < 24) : 0 ≤ m_shl 1 b ∧ m_shl 1 b ≤ 16777215 := by
  obtain ⟨n, rfl⟩ : ∃ n : Nat, b = (n : Int) := ⟨b.toNat, by omega⟩
  rw [m_shl_nat n (by omega)]
  have : 2 ^ n ≤ 2 ^ 23 := Nat.pow_le_pow_right (by omega) (by omega)
  generalize 2 ^ n = q at this ⊢
  omega
/-- whether a block is in a set -/
def bit (x b : Int) : Bool := x.toNat.testBit b.toNat
theorem bit_or {x z b : Int} (hx : 0 ≤ x ∧ x ≤ 16777215) (hz : 0 ≤ z ∧ z ≤ 16777215) : bit (m_or x z) b = (bit x b || bit z b) := by
  obtain ⟨a, rfl⟩ : ∃ a : Nat, x = (a : Int) := ⟨x.toNat, by omega⟩
  obtain ⟨c, rfl⟩ : ∃ c : Nat, z = (c : Int) := ⟨z.toNat, by omega⟩
  rw [m_or_nat (by omega) (by omega)]
  simp [bit, Nat.testBit_or]
theorem bit_and {x z b : Int} (hx : 0 ≤ x ∧ x ≤ 16777215) (hz : 0 ≤ z ∧ z ≤ 16777215) : bit (m_and x z) b = (bit x b && bit z b) := by
  obtain ⟨a, rfl⟩ : ∃ a : Nat, x = (a : Int) := ⟨x.toNat, by omega⟩
  obtain ⟨c, rfl⟩ : ∃ c : Nat, z = (c : Int) := ⟨z.toNat, by omega⟩
  rw [m_and_nat (by omega) (by omega)]
  simp [bit, Nat.testBit_and]
theorem bit_shl {k b : Int} (h0 : 0 ≤ k) (h : k < 24) (hb : 0 ≤ b) : bit (m_shl 1 k) b = decide (k = b) := by
  obtain ⟨n, rfl⟩ : ∃ n : Nat, k = (n : Int) := ⟨k.toNat, by omega⟩
  obtain ⟨c, rfl⟩ : ∃ c : Nat, b = (c : Int) := ⟨b.toNat, by omega⟩
  rw [m_shl_nat n (by omega)]
  unfold bit
  rw [Int.toNat_natCast, Int.toNat_natCast, Nat.testBit_two_pow]
  have : (n = c) ↔ ((n : Int) = (c : Int)) := by omega
  simp [this]
theorem bit_zero (b : Int) : bit 0 b = false := by simp [bit]
theorem bit_hi {x b : Int} (hx : 0 ≤ x ∧ x ≤ 16777215) (hb : 24 ≤ b) : bit x b = false := by
  unfold bit
  apply Nat.testBit_lt_two_pow
  have : 2 ^ 24 ≤ 2 ^ b.toNat := Nat.pow_le_pow_right (by omega) (by omega)
  omega
theorem bit_ext {x z : Int} (hx : 0 ≤ x ∧ x ≤ 16777215) (hz : 0 ≤ z ∧ z ≤ 16777215) (h : ∀ b : Int, 0 ≤ b → b < 24 → bit x b = bit z b) : x = z := by
  have : x.toNat = z.toNat := by
    apply Nat.eq_of_testBit_eq
    intro i
    by_cases hi : i < 24
    · have := h i (by omega) (by omega)
      simpa [bit] using this
    · have h1 := bit_hi (b := i) hx (by omega)
      have h2 := bit_hi (b := i) hz (by omega)
      simp only [bit, Int.toNat_natCast] at h1 h2
      rw [h1, h2]
  omega
/-- the way the code asks for a bit -/
theorem bit_ask {x b : Int} (hx : 0 ≤ x ∧ x ≤ 16777215) (h0 : 0 ≤ b) (hb : b < 24) : m_and (m_shr x b) 1 = if bit x b = true then 1 else 0 := by
  obtain ⟨a, rfl⟩ : ∃ a : Nat, x = (a : Int) := ⟨x.toNat, by omega⟩
  obtain ⟨n, rfl⟩ : ∃ n : Nat, b = (n : Int) := ⟨b.toNat, by omega⟩
  rw [m_shr_nat (by omega) (by omega)]
  have hle : a / 2 ^ n ≤ a := Nat.div_le_self _ _
  have h1 := m_and_nat (a := a / 2 ^ n) (b := 1) (by omega) (by omega)
  rw [show ((1 : Nat) : Int) = 1 from rfl] at h1
  rw [h1]
  simp only [bit, Int.toNat_natCast, Nat.testBit, Nat.shiftRight_eq_div_pow]
  rw [Nat.and_comm]
  have h2 : (1 &&& a / 2 ^ n) = (a / 2 ^ n) % 2 := by rw [Nat.and_comm, Nat.and_one_is_mod]
  rw [h2]
  rcases Nat.mod_two_eq_zero_or_one (a / 2 ^ n) with h | h <;> simp [h]
