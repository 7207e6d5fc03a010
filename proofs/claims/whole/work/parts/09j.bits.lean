theorem zbn {a : Nat} (h : a < 2147483648) : (Int32.ofInt (a : Int)).toBitVec.toNat = a := by
  have e : (Int32.ofInt (a : Int)).toBitVec = BitVec.ofNat 32 a := by
    rw [zbv]
    exact BitVec.ofInt_natCast ..
  rw [e, BitVec.toNat_ofNat]
  exact Nat.mod_eq_of_lt (by omega)
theorem zor_nat {a b : Nat} (ha : a < 2147483648) (hb : b < 2147483648) : zor (a : Int) (b : Int) = ((a ||| b : Nat) : Int) := by
  have h : a ||| b < 2 ^ 31 := Nat.or_lt_two_pow (by omega) (by omega)
  unfold zor
  have e : (Int32.ofInt (a : Int) ||| Int32.ofInt (b : Int)).toBitVec.toNat = a ||| b := by
    rw [Int32.toBitVec_or, BitVec.toNat_or, zbn ha, zbn hb]
  show (Int32.ofInt (a : Int) ||| Int32.ofInt (b : Int)).toBitVec.toInt = _
  rw [BitVec.toInt_eq_toNat_of_lt (by omega), e]
theorem zand_nat {a b : Nat} (ha : a < 2147483648) (hb : b < 2147483648) : zand (a : Int) (b : Int) = ((a &&& b : Nat) : Int) := by
  have h : a &&& b < 2 ^ 31 := Nat.and_lt_two_pow _ (by omega)
  unfold zand
  have e : (Int32.ofInt (a : Int) &&& Int32.ofInt (b : Int)).toBitVec.toNat = a &&& b := by
    rw [Int32.toBitVec_and, BitVec.toNat_and, zbn ha, zbn hb]
  show (Int32.ofInt (a : Int) &&& Int32.ofInt (b : Int)).toBitVec.toInt = _
  rw [BitVec.toInt_eq_toNat_of_lt (by omega), e]
theorem zshl_all : ∀ c : Fin 12, zshl 1 ((c : Nat) : Int) = ((2 ^ (c : Nat) : Nat) : Int) := by decide +kernel
theorem zshl_nat {c : Nat} (h : c < 12) : zshl 1 (c : Int) = ((2 ^ c : Nat) : Int) := zshl_all ⟨c, h⟩
theorem zbit_nat {a c : Nat} (ha : a < 2147483648) (hc : c < 12) : zand (a : Int) (zshl 1 (c : Int)) ≠ 0 ↔ a.testBit c = true := by
  have h2 : 2 ^ c < 2147483648 := Nat.lt_of_lt_of_le (Nat.pow_lt_pow_right (by decide) hc) (by decide)
  rw [zshl_nat hc, zand_nat ha h2]
  have key : (a &&& 2 ^ c).testBit c = a.testBit c := by
    rw [Nat.testBit_and, Nat.testBit_two_pow_self, Bool.and_true]
  constructor
  · intro h
    cases g : a.testBit c
    · exfalso
      apply h
      have e : a &&& 2 ^ c = 0 := by
        apply Nat.eq_of_testBit_eq
        intro i
        rw [Nat.testBit_and, Nat.testBit_two_pow, Nat.zero_testBit]
        by_cases q : c = i
        · rw [← q, g]; rfl
        · simp only [q, decide_false, Bool.and_false]
      rw [e]
      rfl
    · rfl
  · intro h e
    have e0 : a &&& 2 ^ c = 0 := by omega
    rw [e0, Nat.zero_testBit] at key
    rw [h] at key
    cases key
/-- a bit set anew -/
theorem zor_bit {S n c : Int} (hS : 0 ≤ S ∧ S < 2147483648) (hn : 0 ≤ n ∧ n ≤ 11) (hc : 0 ≤ c ∧ c ≤ 11) : zand (zor S (zshl 1 n)) (zshl 1 c) ≠ 0 ↔ (zand S (zshl 1 c) ≠ 0 ∨ c = n) := by
  obtain ⟨s, rfl⟩ := Int.eq_ofNat_of_zero_le hS.1
  obtain ⟨m, rfl⟩ := Int.eq_ofNat_of_zero_le hn.1
  obtain ⟨d, rfl⟩ := Int.eq_ofNat_of_zero_le hc.1
  have h2 : 2 ^ m < 2147483648 := Nat.lt_of_lt_of_le (Nat.pow_lt_pow_right (by decide) (show m < 12 by omega)) (by decide)
  have h3 : s ||| 2 ^ m < 2 ^ 31 := Nat.or_lt_two_pow (by omega) (by omega)
  rw [zshl_nat (c := m) (by omega), zor_nat (by omega) h2, zbit_nat (by omega) (by omega), zbit_nat (by omega) (by omega), Nat.testBit_or, Nat.testBit_two_pow]
  simp only [Bool.or_eq_true, decide_eq_true_eq]
  constructor
  · rintro (h | h)
    · exact Or.inl h
    · exact Or.inr (by omega)
  · rintro (h | h)
    · exact Or.inl h
    · exact Or.inr (by omega)
theorem zor_two {a b c : Int} (ha : 0 ≤ a ∧ a < 4096) (hb : 0 ≤ b ∧ b < 4096) (hc : 0 ≤ c ∧ c ≤ 11) : (0 ≤ zor a b ∧ zor a b < 4096) ∧ (zand (zor a b) (zshl 1 c) ≠ 0 ↔ (zand a (zshl 1 c) ≠ 0 ∨ zand b (zshl 1 c) ≠ 0)) := by
  obtain ⟨s, rfl⟩ := Int.eq_ofNat_of_zero_le ha.1
  obtain ⟨m, rfl⟩ := Int.eq_ofNat_of_zero_le hb.1
  obtain ⟨d, rfl⟩ := Int.eq_ofNat_of_zero_le hc.1
  have h3 : s ||| m < 2 ^ 12 := Nat.or_lt_two_pow (by omega) (by omega)
  rw [zor_nat (by omega) (by omega)]
  refine ⟨by omega, ?_⟩
  rw [zbit_nat (by omega) (by omega), zbit_nat (by omega) (by omega), zbit_nat (by omega) (by omega), Nat.testBit_or]
  simp only [Bool.or_eq_true]
theorem zand_0 {c : Int} (hc : 0 ≤ c ∧ c ≤ 11) : ¬ zand 0 (zshl 1 c) ≠ 0 := by
  obtain ⟨d, rfl⟩ := Int.eq_ofNat_of_zero_le hc.1
  intro q
  have h := (zbit_nat (a := 0) (c := d) (by omega) (by omega)).mp q
  rw [Nat.zero_testBit] at h
  cases h
