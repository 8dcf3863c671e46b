/-! ===== bits of small natural numbers, as the machine has them ===== -/
theorem pm_inN {n : Nat} (h : n < 2147483648) : pm_inI (n : Int) := ⟨by omega, by omega⟩
theorem pm_ofN (n : Nat) : Int32.ofInt (n : Int) = Int32.ofNat n := Int32.ofInt_eq_ofNat
theorem pm_toN {n : Nat} (h : n < 2147483648) : (Int32.ofNat n).toInt = (n : Int) := by rw [← pm_ofN]; exact pm_toI (pm_inN h)
theorem pm_and_n {a b : Nat} (ha : a < 2147483648) (hb : b < 2147483648) : pm_and (a : Int) (b : Int) = ((a &&& b : Nat) : Int) := by
  unfold pm_and
  rw [pm_ofN, pm_ofN]
  have h : (Int32.ofNat a &&& Int32.ofNat b) = Int32.ofNat (a &&& b) := by
    apply Int32.toBitVec_inj.mp
    apply BitVec.eq_of_getLsbD_eq
    intro i hi
    simp [Int32.toBitVec_and, Nat.testBit_and]
  rw [h, pm_toN (Nat.lt_of_le_of_lt Nat.and_le_left ha)]
theorem pm_or_n {a b : Nat} (ha : a < 2147483648) (hb : b < 2147483648) : pm_or (a : Int) (b : Int) = ((a ||| b : Nat) : Int) := by
  unfold pm_or
  rw [pm_ofN, pm_ofN]
  have h : (Int32.ofNat a ||| Int32.ofNat b) = Int32.ofNat (a ||| b) := by
    apply Int32.toBitVec_inj.mp
    apply BitVec.eq_of_getLsbD_eq
    intro i hi
    simp [Int32.toBitVec_or, Nat.testBit_or]
    cases decide (i < 32) <;> simp
  rw [h, pm_toN (Nat.or_lt_two_pow (n := 31) ha hb)]
theorem pm_xor_n {a b : Nat} (ha : a < 2147483648) (hb : b < 2147483648) : pm_xor (a : Int) (b : Int) = ((a ^^^ b : Nat) : Int) := by
  unfold pm_xor
  rw [pm_ofN, pm_ofN]
  have h : (Int32.ofNat a ^^^ Int32.ofNat b) = Int32.ofNat (a ^^^ b) := by
    apply Int32.toBitVec_inj.mp
    apply BitVec.eq_of_getLsbD_eq
    intro i hi
    simp [Int32.toBitVec_xor, Nat.testBit_xor]
    cases decide (i < 32) <;> simp
  rw [h, pm_toN (Nat.xor_lt_two_pow (n := 31) ha hb)]
/-- the shifts that come up -/
theorem pm_shl_tab : ∀ k : Fin 31, pm_shl 1 ((k : Nat) : Int) = ((2 ^ (k : Nat) : Nat) : Int) := by decide +kernel
theorem pm_shl_1 {k : Nat} (h : k < 31) : pm_shl 1 (k : Int) = ((2 ^ k : Nat) : Int) := pm_shl_tab ⟨k, h⟩
