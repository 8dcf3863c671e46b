/-! ===== bits of small natural numbers, as the machine has them ===== -/
theorem pm_inN {n : Nat} (h : n < 2147483648) : pm_inI (n : Int) := ⟨by omega, by omega⟩
theorem pm_ofN (n : Nat) : Int32.ofInt (n : Int) = Int32.ofNat n := Int32.ofInt_eq_ofNat
theorem pm_toN {n : Nat} (h : n < 2147483648) : (Int32.ofNat n).toInt = (n : Int) := by rw [← pm_ofN]; exact pm_toI (pm_inN h)
theorem pm_and_n {a b : Nat} (ha : a < 2147483648) (hb : b < 2147483648) : pm_and (a : Int) (b : Int) = ((a &&& b : Nat) : Int) := by
  unfold pm_and
  rw [pm_ofN, pm_ofN]
  have h : (Int32.ofNat a &&& Int32.ofNat b) = Int32.ofNat (a &&& b) := by
    apply Int32.toBitVec_inj.mp
    apply BitVec.eq_of_getLsbD_eq
    intro i hi
    simp [Int32.toBitVec_and, Nat.testBit_and]
  rw [h, pm_toN (Nat.lt_of_le_of_lt Nat.and_le_left ha)]
theorem pm_or_n {a b : Nat} (ha : a < 2147483648) (hb : b < 2147483648) : pm_or (a : Int) (b : Int) = ((a ||| b : Nat) : Int) := by
  unfold pm_or
  rw [pm_ofN, pm_ofN]
  have h : (Int32.ofNat a ||| Int32.ofNat b) = Int32.ofNat (a ||| b) := by
    apply Int32.toBitVec_inj.mp
    apply BitVec.eq_of_getLsbD_eq
    intro i hi
    simp [Int32.toBitVec_or, Nat.testBit_or]
  rw [h, pm_toN (Nat.or_lt_two_pow (n := 31) ha hb)]
theorem pm_xor_n {a b : Nat} (ha : a < 2147483648) (hb : b < 2147483648) : pm_xor (a : Int) (b : Int) = ((a ^^^ b : Nat) : Int) := by
  unfold pm_xor
  rw [pm_ofN, pm_ofN]
  have h : (Int32.ofNat a ^^^ Int32.ofNat b) = Int32.ofNat (a ^^^ b) := by
    apply Int32.toBitVec_inj.mp
    apply BitVec.eq_of_getLsbD_eq
    intro i hi
    simp [Int32.toBitVec_xor, Nat.testBit_xor]
  rw [h, pm_toN (Nat.xor_lt_two_pow (n := 31) ha hb)]
/-- the shifts that come up -/
theorem pm_shl_tab : ∀ k : Fin 31, pm_shl 1 ((k : Nat) : Int) = ((2 ^ (k : Nat) : Nat) : Int) := by decide +kernel
theorem pm_shl_1 {k : Nat} (h : k < 31) : pm_shl 1 (k : Int) = ((2 ^ k : Nat) : Int) := pm_shl_tab ⟨k, h⟩
theorem pm_sh_tab : ∀ k : Fin 32, ((Int32.ofInt ((k : Nat) : Int) &&& 31).toBitVec.smod 32).toNat = (k : Nat) := by decide +kernel
theorem pm_shr_n {a : Int} {k : Nat} (ha : pm_inI a) (hk : k < 32) : pm_shr a (k : Int) = a >>> k := by
  unfold pm_shr
  have h1 : (Int32.ofInt a >>> (Int32.ofInt (k : Int) &&& 31)).toInt = ((Int32.ofInt a).toBitVec.sshiftRight' ((Int32.ofInt (k : Int) &&& 31).toBitVec.smod 32)).toInt := rfl
  rw [h1, BitVec.toInt_sshiftRight', pm_sh_tab ⟨k, hk⟩]
  have h2 : (Int32.ofInt a).toBitVec.toInt = a := pm_toI ha
  rw [h2]
theorem pm_and_in (a b : Int) : pm_inI (pm_and a b) := ⟨Int32.minValue_le_toInt _, Int32.toInt_le _⟩
theorem pm_or_in (a b : Int) : pm_inI (pm_or a b) := ⟨Int32.minValue_le_toInt _, Int32.toInt_le _⟩
theorem pm_xor_in (a b : Int) : pm_inI (pm_xor a b) := ⟨Int32.minValue_le_toInt _, Int32.toInt_le _⟩
theorem pm_shl_in (a b : Int) : pm_inI (pm_shl a b) := ⟨Int32.minValue_le_toInt _, Int32.toInt_le _⟩
theorem pm_shr_in (a b : Int) : pm_inI (pm_shr a b) := ⟨Int32.minValue_le_toInt _, Int32.toInt_le _⟩
theorem pm_b8_in (a : Int) : pm_inI (pm_b8 a) := ⟨Int32.minValue_le_toInt _, Int32.toInt_le _⟩
theorem pm_cmp_in (a b : Int) : pm_inI (pm_cmp a b) := by unfold pm_cmp pm_inI; split <;> (try split) <;> omega
/-- a bit of a set -/
theorem pm_bit {s k : Nat} (hs : s < 2147483648) (hk : k < 32) : pm_and (pm_shr (s : Int) (k : Int)) 1 = if s.testBit k then 1 else 0 := by
  rw [pm_shr_n (pm_inN hs) hk]
  have h1 : ((s : Int) >>> k) = ((s >>> k : Nat) : Int) := rfl
  have h2 : (1 : Int) = ((1 : Nat) : Int) := rfl
  rw [h1, h2, pm_and_n (Nat.lt_of_le_of_lt (Nat.shiftRight_le s k) hs) (by omega), Nat.testBit_eq_decide_div_mod_eq, Nat.and_one_is_mod, Nat.shiftRight_eq_div_pow]
  rcases Nat.mod_two_eq_zero_or_one (s / 2 ^ k) with h | h <;> simp [h]
/-- going over 0 .. n-1 -/
theorem fo_succ {α : Type} (g : α → Nat → α) (a : α) (n : Nat) : (List.range (n + 1)).foldl g a = g ((List.range n).foldl g a) n := by
  rw [List.range_succ, List.foldl_append]; rfl
