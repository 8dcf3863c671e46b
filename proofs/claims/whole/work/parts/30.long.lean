/-! ===== long masks: and, or, shifts; bits counted ===== -/
theorem pm_ofNL (n : Nat) : Int64.ofInt (n : Int) = Int64.ofNat n := Int64.ofInt_eq_ofNat
theorem pm_toNL {n : Nat} (h : n < 9223372036854775808) : (Int64.ofNat n).toInt = (n : Int) := Int64.toInt_ofNat_of_lt h
theorem pm_andL_n {a b : Nat} (ha : a < 9223372036854775808) : pm_andL (a : Int) (b : Int) = ((a &&& b : Nat) : Int) := by
  unfold pm_andL
  rw [pm_ofNL, pm_ofNL]
  have h : (Int64.ofNat a &&& Int64.ofNat b) = Int64.ofNat (a &&& b) := by
    apply Int64.toBitVec_inj.mp
    apply BitVec.eq_of_getLsbD_eq
    intro i hi
    simp [Int64.toBitVec_and, Nat.testBit_and]
  rw [h, pm_toNL (Nat.lt_of_le_of_lt Nat.and_le_left ha)]
theorem pm_orL_n {a b : Nat} (ha : a < 9223372036854775808) (hb : b < 9223372036854775808) : pm_orL (a : Int) (b : Int) = ((a ||| b : Nat) : Int) := by
  unfold pm_orL
  rw [pm_ofNL, pm_ofNL]
  have h : (Int64.ofNat a ||| Int64.ofNat b) = Int64.ofNat (a ||| b) := by
    apply Int64.toBitVec_inj.mp
    apply BitVec.eq_of_getLsbD_eq
    intro i hi
    simp [Int64.toBitVec_or, Nat.testBit_or]
  rw [h, pm_toNL (Nat.or_lt_two_pow (n := 63) ha hb)]
theorem pm_and127 (a : Nat) : pm_and (a : Int) 127 = ((a % 128 : Nat) : Int) := by
  unfold pm_and
  rw [show (127 : Int) = ((127 : Nat) : Int) from rfl, pm_ofN, pm_ofN]
  have h : (Int32.ofNat a &&& Int32.ofNat 127) = Int32.ofNat (a &&& 127) := by
    apply Int32.toBitVec_inj.mp
    apply BitVec.eq_of_getLsbD_eq
    intro i hi
    simp [Int32.toBitVec_and, Nat.testBit_and]
  rw [h, pm_toN (Nat.lt_of_le_of_lt Nat.and_le_right (by decide)), show a &&& 127 = a % 128 from Nat.and_two_pow_sub_one_eq_mod a 7]
theorem pm_ushL_tab : ∀ k : Fin 64, (((Int32.ofInt ((k : Nat) : Int)).toInt64.toUInt64 &&& Int64.toUInt64 63).toNat) = (k : Nat) := by decide +kernel
theorem pm_ushrL_n {a k : Nat} (ha : a < 9223372036854775808) (hk : k < 64) : pm_ushrL (a : Int) (k : Int) = ((a / 2 ^ k : Nat) : Int) := by
  unfold pm_ushrL
  rw [pm_ofNL]
  have h0 := pm_ushL_tab ⟨k, hk⟩
  obtain ⟨c, hc⟩ : ∃ c, c = ((Int32.ofInt (k : Int)).toInt64.toUInt64 &&& Int64.toUInt64 63) := ⟨_, rfl⟩
  rw [← hc] at h0 ⊢
  have h1 : ((Int64.ofNat a).toUInt64 >>> c).toNat = a / 2 ^ k := by
    rw [UInt64.toNat_shiftRight, h0, Nat.mod_eq_of_lt hk, Nat.shiftRight_eq_div_pow]
    have h2 : (Int64.ofNat a).toUInt64.toNat = a := by
      show (BitVec.ofNat 64 a).toNat = a
      rw [BitVec.toNat_ofNat]
      exact Nat.mod_eq_of_lt (by omega)
    rw [h2]
  show ((Int64.ofNat a).toUInt64 >>> c).toBitVec.toInt = _
  have h3 : ((Int64.ofNat a).toUInt64 >>> c).toBitVec.toNat = a / 2 ^ k := h1
  have h4 : a / 2 ^ k ≤ a := Nat.div_le_self _ _
  rw [BitVec.toInt_eq_toNat_of_lt (by rw [h3]; omega), h3]
/-! bytes -/
theorem and_byte (a b m n : Nat) (ha : a < 256) (hm : m < 256) : (a + 256 * b) &&& (m + 256 * n) = (a &&& m) + 256 * (b &&& n) := by
  have h1 := Nat.and_mod_two_pow (a := a + 256 * b) (b := m + 256 * n) (n := 8)
  have h2 := Nat.and_div_two_pow (a := a + 256 * b) (b := m + 256 * n) (n := 8)
  have e1 : (a + 256 * b) % 2 ^ 8 = a := by omega
  have e2 : (m + 256 * n) % 2 ^ 8 = m := by omega
  have e3 : (a + 256 * b) / 2 ^ 8 = b := by omega
  have e4 : (m + 256 * n) / 2 ^ 8 = n := by omega
  rw [e1, e2] at h1
  rw [e3, e4] at h2
  omega
/-- a mask of n like bytes; a map of n bytes -/
def bmk (c : Nat) : Nat → Nat
  | 0 => 0
  | n + 1 => c + 256 * bmk c n
theorem bmk_s (c n : Nat) : bmk c (n + 1) = c + 256 * bmk c n := rfl
def bmp (t : Nat → Nat) : Nat → Nat → Nat
  | 0, _ => 0
  | n + 1, x => t (x % 256) + 256 * bmp t n (x / 256)
def bt1 (b : Nat) : Nat := b - ((b / 2) &&& 85)
def bt2 (b : Nat) : Nat := (b &&& 51) + ((b / 4) &&& 51)
def bt3 (b : Nat) : Nat := (b + b / 16) &&& 15
def bt4 (b : Nat) : Nat := bt3 (bt2 (bt1 b))
theorem bt1_tab : ∀ b : Fin 256, ∀ i : Fin 2, (((b : Nat) / 2 + 128 * (i : Nat)) &&& 85) = (((b : Nat) / 2) &&& 85) ∧ (((b : Nat) / 2) &&& 85) ≤ (b : Nat) := by decide +kernel
theorem bt2_tab : ∀ b : Fin 256, ∀ i : Fin 4, (((b : Nat) / 4 + 64 * (i : Nat)) &&& 51) = (((b : Nat) / 4) &&& 51) := by decide +kernel
theorem bt2_ok : ∀ b : Fin 256, bt2 (bt1 (b : Nat)) % 16 ≤ 4 ∧ bt2 (bt1 (b : Nat)) / 16 ≤ 4 ∧ bt1 (b : Nat) < 256 ∧ bt4 (b : Nat) ≤ 8 := by decide +kernel
theorem bt2_lt : ∀ b : Fin 256, bt2 (b : Nat) < 256 := by decide +kernel
theorem bt3_tab : ∀ b : Fin 69, ∀ i : Fin 5, (b : Nat) % 16 ≤ 4 → (((b : Nat) + (b : Nat) / 16 + 16 * (i : Nat)) &&& 15) = bt3 (b : Nat) := by decide +kernel
theorem bs_1 : ∀ n x, x < 256 ^ n → ((x / 2) &&& bmk 85 n) ≤ x ∧ x - ((x / 2) &&& bmk 85 n) = bmp bt1 n x := by
  intro n
  induction n with
  | zero => intro x hx; have : x = 0 := by omega
            subst this; exact ⟨by decide, rfl⟩
  | succ n ih =>
    intro x hx
    obtain ⟨b, y, hb, rfl⟩ : ∃ b y, b < 256 ∧ x = b + 256 * y := ⟨x % 256, x / 256, by omega, by omega⟩
    have hy : y < 256 ^ n := by rw [Nat.pow_succ] at hx; omega
    have e1 : (b + 256 * y) / 2 = (b / 2 + 128 * (y % 2)) + 256 * (y / 2) := by omega
    obtain ⟨t1, t2⟩ := bt1_tab ⟨b, hb⟩ ⟨y % 2, by omega⟩
    obtain ⟨i1, i2⟩ := ih y hy
    have e2 : ((b + 256 * y) / 2) &&& bmk 85 (n + 1) = ((b / 2) &&& 85) + 256 * ((y / 2) &&& bmk 85 n) := by
      rw [e1, bmk_s, and_byte _ _ _ _ (by omega) (by decide)]
      exact Nat.add_right_cancel_iff.mpr t1
    have e3 : bmp bt1 (n + 1) (b + 256 * y) = bt1 b + 256 * bmp bt1 n y := by
      show bt1 ((b + 256 * y) % 256) + 256 * bmp bt1 n ((b + 256 * y) / 256) = _
      rw [show (b + 256 * y) % 256 = b by omega, show (b + 256 * y) / 256 = y by omega]
    have t3 : ((b / 2) &&& 85) ≤ b := t2
    rw [e2, e3, ← i2]
    unfold bt1
    omega
theorem bs_2 : ∀ n x, x < 256 ^ n → (x &&& bmk 51 n) + ((x / 4) &&& bmk 51 n) = bmp bt2 n x := by
  intro n
  induction n with
  | zero => intro x hx; have : x = 0 := by omega
            subst this; rfl
  | succ n ih =>
    intro x hx
    obtain ⟨b, y, hb, rfl⟩ : ∃ b y, b < 256 ∧ x = b + 256 * y := ⟨x % 256, x / 256, by omega, by omega⟩
    have hy : y < 256 ^ n := by rw [Nat.pow_succ] at hx; omega
    have e1 : (b + 256 * y) / 4 = (b / 4 + 64 * (y % 4)) + 256 * (y / 4) := by omega
    have t1 := bt2_tab ⟨b, hb⟩ ⟨y % 4, by omega⟩
    have i2 := ih y hy
    have e2 : ((b + 256 * y) / 4) &&& bmk 51 (n + 1) = ((b / 4) &&& 51) + 256 * ((y / 4) &&& bmk 51 n) := by
      rw [e1, bmk_s, and_byte _ _ _ _ (by omega) (by decide)]
      exact Nat.add_right_cancel_iff.mpr t1
    have e4 : (b + 256 * y) &&& bmk 51 (n + 1) = (b &&& 51) + 256 * (y &&& bmk 51 n) := by
      rw [bmk_s, and_byte _ _ _ _ hb (by decide)]
    have e3 : bmp bt2 (n + 1) (b + 256 * y) = bt2 b + 256 * bmp bt2 n y := by
      show bt2 ((b + 256 * y) % 256) + 256 * bmp bt2 n ((b + 256 * y) / 256) = _
      rw [show (b + 256 * y) % 256 = b by omega, show (b + 256 * y) / 256 = y by omega]
    rw [e2, e3, e4, ← i2]
    unfold bt2
    omega
/-- bytes whose halves are at most 4 -/
def bok : Nat → Nat → Prop
  | 0, x => x = 0
  | n + 1, x => (x % 16 ≤ 4 ∧ x % 256 / 16 ≤ 4) ∧ bok n (x / 256)
theorem bok16 : ∀ n x, bok n x → x % 16 ≤ 4
  | 0, _, h => by have : _ = 0 := h; omega
  | _ + 1, _, h => h.1.1
theorem bs_3 : ∀ n x, bok n x → (x + x / 16) &&& bmk 15 n = bmp bt3 n x := by
  intro n
  induction n with
  | zero => intro x hx; rw [show x = 0 from hx]; rfl
  | succ n ih =>
    intro x hx
    obtain ⟨⟨h1, h2⟩, h3⟩ := hx
    obtain ⟨b, y, hb, rfl⟩ : ∃ b y, b < 256 ∧ x = b + 256 * y := ⟨x % 256, x / 256, by omega, by omega⟩
    rw [show (b + 256 * y) / 256 = y by omega] at h3
    have h4 := bok16 n y h3
    have e1 : (b + 256 * y) + (b + 256 * y) / 16 = (b + b / 16 + 16 * (y % 16)) + 256 * (y + y / 16) := by omega
    have t1 := bt3_tab ⟨b, by omega⟩ ⟨y % 16, by omega⟩ (by show b % 16 ≤ 4; omega)
    have i2 := ih y h3
    have e2 : ((b + 256 * y) + (b + 256 * y) / 16) &&& bmk 15 (n + 1) = bt3 b + 256 * ((y + y / 16) &&& bmk 15 n) := by
      rw [e1, bmk_s, and_byte _ _ _ _ (by omega) (by decide)]
      exact Nat.add_right_cancel_iff.mpr t1
    have e3 : bmp bt3 (n + 1) (b + 256 * y) = bt3 b + 256 * bmp bt3 n y := by
      show bt3 ((b + 256 * y) % 256) + 256 * bmp bt3 n ((b + 256 * y) / 256) = _
      rw [show (b + 256 * y) % 256 = b by omega, show (b + 256 * y) / 256 = y by omega]
    rw [e2, e3, i2]
theorem bmp_lt {t : Nat → Nat} (ht : ∀ b, b < 256 → t b < 256) : ∀ n x, bmp t n x < 256 ^ n := by
  intro n
  induction n with
  | zero => intro x; exact (by decide : 0 < 1)
  | succ n ih =>
    intro x
    have h1 := ih (x / 256)
    have h2 := ht (x % 256) (by omega)
    rw [Nat.pow_succ]
    show t (x % 256) + 256 * bmp t n (x / 256) < _
    omega
theorem bmp_bmp {t u : Nat → Nat} (ht : ∀ b, b < 256 → t b < 256) : ∀ n x, bmp u n (bmp t n x) = bmp (fun b => u (t b)) n x := by
  intro n
  induction n with
  | zero => intro x; rfl
  | succ n ih =>
    intro x
    have h2 := ht (x % 256) (by omega)
    show u ((t (x % 256) + 256 * bmp t n (x / 256)) % 256) + 256 * bmp u n ((t (x % 256) + 256 * bmp t n (x / 256)) / 256) = u (t (x % 256)) + 256 * bmp (fun b => u (t b)) n (x / 256)
    rw [show (t (x % 256) + 256 * bmp t n (x / 256)) % 256 = t (x % 256) by omega, show (t (x % 256) + 256 * bmp t n (x / 256)) / 256 = bmp t n (x / 256) by omega, ih]
theorem bok_bmp : ∀ n x, bok n (bmp (fun b => bt2 (bt1 b)) n x) := by
  intro n
  induction n with
  | zero => intro x; rfl
  | succ n ih =>
    intro x
    obtain ⟨h1, h2, -, -⟩ := bt2_ok ⟨x % 256, by omega⟩
    have h1' : bt2 (bt1 (x % 256)) % 16 ≤ 4 := h1
    have h2' : bt2 (bt1 (x % 256)) / 16 ≤ 4 := h2
    have e : bmp (fun b => bt2 (bt1 b)) (n + 1) x = bt2 (bt1 (x % 256)) + 256 * bmp (fun b => bt2 (bt1 b)) n (x / 256) := rfl
    rw [e]
    refine ⟨⟨by omega, by omega⟩, ?_⟩
    rw [show (bt2 (bt1 (x % 256)) + 256 * bmp (fun b => bt2 (bt1 b)) n (x / 256)) / 256 = bmp (fun b => bt2 (bt1 b)) n (x / 256) by omega]
    exact ih _
/-- the bits of a mask, counted -/
def popL (x : Nat) : Nat := sm (fun i => bt x i) 36
def bp8 (b : Nat) : Nat := bt b 0 + bt b 1 + bt b 2 + bt b 3 + bt b 4 + bt b 5 + bt b 6 + bt b 7
theorem bp8_tab : ∀ b : Fin 256, bt4 (b : Nat) = bp8 (b : Nat) ∧ bp8 (b : Nat) ≤ 8 := by decide +kernel
theorem bt_mod (x k : Nat) {i : Nat} (hi : i < 8) : bt (x / 2 ^ k % 256) i = bt x (k + i) := by
  unfold bt
  rw [show (256 : Nat) = 2 ^ 8 from rfl, Nat.testBit_mod_two_pow, Nat.testBit_div_two_pow, Nat.add_comm]
  simp [hi]
theorem bt_high {x i : Nat} (h : x < 2 ^ i) : bt x i = 0 := by
  unfold bt; rw [Nat.testBit_lt_two_pow h]; rfl
theorem popL_bytes {x : Nat} (hx : x < 68719476736) : popL x = bp8 (x % 256) + bp8 (x / 256 % 256) + bp8 (x / 65536 % 256) + bp8 (x / 16777216 % 256) + bp8 (x / 4294967296 % 256) := by
  have h0 : ∀ i, i < 8 → bt (x % 256) i = bt x i := fun i hi => by have := bt_mod x 0 hi; rw [Nat.pow_zero, Nat.div_one, Nat.zero_add] at this; exact this
  have h1 : ∀ i, i < 8 → bt (x / 256 % 256) i = bt x (8 + i) := fun i hi => bt_mod x 8 hi
  have h2 : ∀ i, i < 8 → bt (x / 65536 % 256) i = bt x (16 + i) := fun i hi => bt_mod x 16 hi
  have h3 : ∀ i, i < 8 → bt (x / 16777216 % 256) i = bt x (24 + i) := fun i hi => bt_mod x 24 hi
  have h4 : ∀ i, i < 8 → bt (x / 4294967296 % 256) i = bt x (32 + i) := fun i hi => bt_mod x 32 hi
  have z : ∀ i, 36 ≤ i → bt x i = 0 := fun i hi => bt_high (Nat.lt_of_lt_of_le hx (Nat.pow_le_pow_right (n := 2) (by omega) hi : 2 ^ 36 ≤ 2 ^ i))
  unfold bp8
  rw [h0 0 (by decide), h0 1 (by decide), h0 2 (by decide), h0 3 (by decide), h0 4 (by decide), h0 5 (by decide), h0 6 (by decide), h0 7 (by decide)]
  rw [h1 0 (by decide), h1 1 (by decide), h1 2 (by decide), h1 3 (by decide), h1 4 (by decide), h1 5 (by decide), h1 6 (by decide), h1 7 (by decide)]
  rw [h2 0 (by decide), h2 1 (by decide), h2 2 (by decide), h2 3 (by decide), h2 4 (by decide), h2 5 (by decide), h2 6 (by decide), h2 7 (by decide)]
  rw [h3 0 (by decide), h3 1 (by decide), h3 2 (by decide), h3 3 (by decide), h3 4 (by decide), h3 5 (by decide), h3 6 (by decide), h3 7 (by decide)]
  rw [h4 0 (by decide), h4 1 (by decide), h4 2 (by decide), h4 3 (by decide), h4 4 (by decide), h4 5 (by decide), h4 6 (by decide), h4 7 (by decide)]
  rw [z (32 + 4) (by decide), z (32 + 5) (by decide), z (32 + 6) (by decide), z (32 + 7) (by decide)]
  simp only [popL, sm, Nat.reduceAdd]
  omega
def bl1 (x : Int) : Int := x - pm_andL (pm_ushrL x 1) 6148914691236517205
def bl2 (x : Int) : Int := pm_andL x 3689348814741910323 + pm_andL (pm_ushrL x 2) 3689348814741910323
def bl3 (x : Int) : Int := pm_andL (x + pm_ushrL x 4) 1085102592571150095
def bl4 (x : Int) : Int := x + pm_ushrL x 8
def bl5 (x : Int) : Int := x + pm_ushrL x 16
def bl6 (x : Int) : Int := x + pm_ushrL x 32
def bcL (x : Int) : Int := pm_and (bl6 (bl5 (bl4 (bl3 (bl2 (bl1 x)))))) 127
theorem bl_1 {x : Nat} (hx : x < 68719476736) : bl1 (x : Int) = ((bmp bt1 8 x : Nat) : Int) ∧ bmp bt1 8 x ≤ x := by
  have u : pm_ushrL (x : Int) 1 = ((x / 2 : Nat) : Int) := pm_ushrL_n (k := 1) (by omega) (by decide)
  have a : pm_andL ((x / 2 : Nat) : Int) 6148914691236517205 = ((x / 2 &&& 6148914691236517205 : Nat) : Int) := pm_andL_n (b := 6148914691236517205) (by omega)
  have m : bmk 85 8 = 6148914691236517205 := by decide +kernel
  obtain ⟨h1, h2⟩ := bs_1 8 x (Nat.lt_trans hx (by decide))
  rw [m] at h1 h2
  unfold bl1
  rw [u, a]
  omega
theorem bl_2 {x : Nat} (hx : x < 68719476736) : bl2 (x : Int) = ((bmp bt2 8 x : Nat) : Int) ∧ bmp bt2 8 x ≤ 2 * x := by
  have u : pm_ushrL (x : Int) 2 = ((x / 4 : Nat) : Int) := pm_ushrL_n (k := 2) (by omega) (by decide)
  have a : pm_andL ((x / 4 : Nat) : Int) 3689348814741910323 = ((x / 4 &&& 3689348814741910323 : Nat) : Int) := pm_andL_n (b := 3689348814741910323) (by omega)
  have a' : pm_andL (x : Int) 3689348814741910323 = ((x &&& 3689348814741910323 : Nat) : Int) := pm_andL_n (b := 3689348814741910323) (by omega)
  have m : bmk 51 8 = 3689348814741910323 := by decide +kernel
  have h2 := bs_2 8 x (Nat.lt_trans hx (by decide))
  rw [m] at h2
  have l1 : (x &&& 3689348814741910323) ≤ x := Nat.and_le_left
  have l2 : (x / 4 &&& 3689348814741910323) ≤ x / 4 := Nat.and_le_left
  unfold bl2
  rw [u, a, a']
  omega
theorem bl_3 {x : Nat} (hx : x < 274877906944) (hb : bok 8 x) : bl3 (x : Int) = ((bmp bt3 8 x : Nat) : Int) := by
  have u : pm_ushrL (x : Int) 4 = ((x / 16 : Nat) : Int) := pm_ushrL_n (k := 4) (by omega) (by decide)
  have a : pm_andL ((x + x / 16 : Nat) : Int) 1085102592571150095 = ((x + x / 16 &&& 1085102592571150095 : Nat) : Int) := pm_andL_n (b := 1085102592571150095) (by omega)
  have m : bmk 15 8 = 1085102592571150095 := by decide +kernel
  have h2 := bs_3 8 x hb
  rw [m] at h2
  unfold bl3
  rw [u, ← Int.natCast_add, a, h2]
theorem bl_fin {p0 p1 p2 p3 p4 : Nat} (h0 : p0 ≤ 8) (h1 : p1 ≤ 8) (h2 : p2 ≤ 8) (h3 : p3 ≤ 8) (h4 : p4 ≤ 8) : pm_and (bl6 (bl5 (bl4 ((p0 + 256 * p1 + 65536 * p2 + 16777216 * p3 + 4294967296 * p4 : Nat) : Int)))) 127 = ((p0 + p1 + p2 + p3 + p4 : Nat) : Int) := by
  have e4 : bl4 ((p0 + 256 * p1 + 65536 * p2 + 16777216 * p3 + 4294967296 * p4 : Nat) : Int) = (((p0 + p1) + 256 * (p1 + p2) + 65536 * (p2 + p3) + 16777216 * (p3 + p4) + 4294967296 * p4 : Nat) : Int) := by
    unfold bl4
    have u : pm_ushrL ((p0 + 256 * p1 + 65536 * p2 + 16777216 * p3 + 4294967296 * p4 : Nat) : Int) 8 = (((p0 + 256 * p1 + 65536 * p2 + 16777216 * p3 + 4294967296 * p4) / 256 : Nat) : Int) := pm_ushrL_n (k := 8) (by omega) (by decide)
    have v : (p0 + 256 * p1 + 65536 * p2 + 16777216 * p3 + 4294967296 * p4) / 256 = p1 + 256 * p2 + 65536 * p3 + 16777216 * p4 := by omega
    rw [u, v]
    omega
  have e5 : bl5 (((p0 + p1) + 256 * (p1 + p2) + 65536 * (p2 + p3) + 16777216 * (p3 + p4) + 4294967296 * p4 : Nat) : Int) = (((p0 + p1 + p2 + p3) + 256 * (p1 + p2 + p3 + p4) + 65536 * (p2 + p3 + p4) + 16777216 * (p3 + p4) + 4294967296 * p4 : Nat) : Int) := by
    unfold bl5
    have u : pm_ushrL (((p0 + p1) + 256 * (p1 + p2) + 65536 * (p2 + p3) + 16777216 * (p3 + p4) + 4294967296 * p4 : Nat) : Int) 16 = ((((p0 + p1) + 256 * (p1 + p2) + 65536 * (p2 + p3) + 16777216 * (p3 + p4) + 4294967296 * p4) / 65536 : Nat) : Int) := pm_ushrL_n (k := 16) (by omega) (by decide)
    have v : ((p0 + p1) + 256 * (p1 + p2) + 65536 * (p2 + p3) + 16777216 * (p3 + p4) + 4294967296 * p4) / 65536 = (p2 + p3) + 256 * (p3 + p4) + 65536 * p4 := by omega
    rw [u, v]
    omega
  have e6 : bl6 (((p0 + p1 + p2 + p3) + 256 * (p1 + p2 + p3 + p4) + 65536 * (p2 + p3 + p4) + 16777216 * (p3 + p4) + 4294967296 * p4 : Nat) : Int) = (((p0 + p1 + p2 + p3 + p4) + 256 * (p1 + p2 + p3 + p4) + 65536 * (p2 + p3 + p4) + 16777216 * (p3 + p4) + 4294967296 * p4 : Nat) : Int) := by
    unfold bl6
    have u : pm_ushrL (((p0 + p1 + p2 + p3) + 256 * (p1 + p2 + p3 + p4) + 65536 * (p2 + p3 + p4) + 16777216 * (p3 + p4) + 4294967296 * p4 : Nat) : Int) 32 = ((((p0 + p1 + p2 + p3) + 256 * (p1 + p2 + p3 + p4) + 65536 * (p2 + p3 + p4) + 16777216 * (p3 + p4) + 4294967296 * p4) / 4294967296 : Nat) : Int) := pm_ushrL_n (k := 32) (by omega) (by decide)
    have v : ((p0 + p1 + p2 + p3) + 256 * (p1 + p2 + p3 + p4) + 65536 * (p2 + p3 + p4) + 16777216 * (p3 + p4) + 4294967296 * p4) / 4294967296 = p4 := by omega
    rw [u, v]
    omega
  rw [e4, e5, e6, pm_and127]
  omega
theorem bcL_eq {x : Nat} (hx : x < 68719476736) : bcL (x : Int) = (popL x : Int) := by
  obtain ⟨a1, b1⟩ := bl_1 hx
  obtain ⟨a2, b2⟩ := bl_2 (x := bmp bt1 8 x) (by omega)
  have k1 : ∀ b, b < 256 → bt1 b < 256 := fun b hb => (bt2_ok ⟨b, hb⟩).2.2.1
  have k2 : ∀ b, b < 256 → bt2 (bt1 b) < 256 := fun b hb => by
    obtain ⟨h1, h2, -, -⟩ := bt2_ok ⟨b, hb⟩
    have h1' : bt2 (bt1 b) % 16 ≤ 4 := h1
    have h2' : bt2 (bt1 b) / 16 ≤ 4 := h2
    omega
  have c2 := bmp_bmp (u := bt2) k1 8 x
  rw [c2] at a2 b2
  have a3 := bl_3 (x := bmp (fun b => bt2 (bt1 b)) 8 x) (by omega) (bok_bmp 8 x)
  have c3 := bmp_bmp (t := fun b => bt2 (bt1 b)) (u := bt3) k2 8 x
  rw [c3] at a3
  unfold bcL
  rw [a1, a2, a3]
  have q : ∀ b, b < 256 → bt3 (bt2 (bt1 b)) = bp8 b ∧ bp8 b ≤ 8 := fun b hb => bp8_tab ⟨b, hb⟩
  have d1 : x / 256 / 256 = x / 65536 := by omega
  have d2 : x / 65536 / 256 = x / 16777216 := by omega
  have d3 : x / 16777216 / 256 = x / 4294967296 := by omega
  have d4 : x / 4294967296 / 256 = 0 := by omega
  have e : bmp (fun b => bt3 (bt2 (bt1 b))) 8 x = bp8 (x % 256) + 256 * bp8 (x / 256 % 256) + 65536 * bp8 (x / 65536 % 256) + 16777216 * bp8 (x / 16777216 % 256) + 4294967296 * bp8 (x / 4294967296 % 256) := by
    show bt3 (bt2 (bt1 (x % 256))) + 256 * (bt3 (bt2 (bt1 (x / 256 % 256))) + 256 * (bt3 (bt2 (bt1 (x / 256 / 256 % 256))) + 256 * (bt3 (bt2 (bt1 (x / 256 / 256 / 256 % 256))) + 256 * (bt3 (bt2 (bt1 (x / 256 / 256 / 256 / 256 % 256))) + 256 * bmp (fun b => bt3 (bt2 (bt1 b))) 3 (x / 256 / 256 / 256 / 256 / 256))))) = _
    rw [d1, d2, d3, d4, show bmp (fun b => bt3 (bt2 (bt1 b))) 3 0 = 0 by decide +kernel]
    rw [(q (x % 256) (by omega)).1, (q (x / 256 % 256) (by omega)).1, (q (x / 65536 % 256) (by omega)).1, (q (x / 16777216 % 256) (by omega)).1, (q (x / 4294967296 % 256) (by omega)).1]
    omega
  rw [e, bl_fin (q _ (by omega)).2 (q _ (by omega)).2 (q _ (by omega)).2 (q _ (by omega)).2 (q _ (by omega)).2, popL_bytes hx]
theorem c_Long_bitCount {d mc ms : Nat} {M : pm_M} {x : Nat} (hx : x < 68719476736) :
    pm_E d 266 [(1, (x : Int))] M mc ms (fun ρ M' => ρ = some (0, (popL x : Int)) ∧ M' = M) := by
  show Wp d 266 0 [(1, (x : Int)), (9, 0)] [] M mc ms _
  refine g_lload_n lk_266_0 rfl ?_
  refine g_lload_n lk_266_1 rfl ?_
  refine g_iconst lk_266_2 ?_
  refine g_lushr lk_266_3 ?_
  refine g_ldc2_w lk_266_4 ?_
  refine g_land lk_266_7 ?_
  refine g_lsub lk_266_8 ?_
  refine g_lstore_n (ls' := [(1, ((x : Int) - (pm_andL (pm_ushrL (x : Int) 1) 6148914691236517205))), (9, 0)]) lk_266_9 rfl rfl ?_
  refine g_lload_n lk_266_10 rfl ?_
  refine g_ldc2_w lk_266_11 ?_
  refine g_land lk_266_14 ?_
  refine g_lload_n lk_266_15 rfl ?_
  refine g_iconst lk_266_16 ?_
  refine g_lushr lk_266_17 ?_
  refine g_ldc2_w lk_266_18 ?_
  refine g_land lk_266_21 ?_
  refine g_ladd lk_266_22 ?_
  refine g_lstore_n (ls' := [(1, ((pm_andL ((x : Int) - (pm_andL (pm_ushrL (x : Int) 1) 6148914691236517205)) 3689348814741910323) + (pm_andL (pm_ushrL ((x : Int) - (pm_andL (pm_ushrL (x : Int) 1) 6148914691236517205)) 2) 3689348814741910323))), (9, 0)]) lk_266_23 rfl rfl ?_
  refine g_lload_n lk_266_24 rfl ?_
  refine g_lload_n lk_266_25 rfl ?_
  refine g_iconst lk_266_26 ?_
  refine g_lushr lk_266_27 ?_
  refine g_ladd lk_266_28 ?_
  refine g_ldc2_w lk_266_29 ?_
  refine g_land lk_266_32 ?_
  refine g_lstore_n (ls' := [(1, (pm_andL (((pm_andL ((x : Int) - (pm_andL (pm_ushrL (x : Int) 1) 6148914691236517205)) 3689348814741910323) + (pm_andL (pm_ushrL ((x : Int) - (pm_andL (pm_ushrL (x : Int) 1) 6148914691236517205)) 2) 3689348814741910323)) + (pm_ushrL ((pm_andL ((x : Int) - (pm_andL (pm_ushrL (x : Int) 1) 6148914691236517205)) 3689348814741910323) + (pm_andL (pm_ushrL ((x : Int) - (pm_andL (pm_ushrL (x : Int) 1) 6148914691236517205)) 2) 3689348814741910323)) 4)) 1085102592571150095)), (9, 0)]) lk_266_33 rfl rfl ?_
  refine g_lload_n lk_266_34 rfl ?_
  refine g_lload_n lk_266_35 rfl ?_
  refine g_bipush lk_266_36 ?_
  refine g_lushr lk_266_38 ?_
  refine g_ladd lk_266_39 ?_
  refine g_lstore_n (ls' := [(1, ((pm_andL (((pm_andL ((x : Int) - (pm_andL (pm_ushrL (x : Int) 1) 6148914691236517205)) 3689348814741910323) + (pm_andL (pm_ushrL ((x : Int) - (pm_andL (pm_ushrL (x : Int) 1) 6148914691236517205)) 2) 3689348814741910323)) + (pm_ushrL ((pm_andL ((x : Int) - (pm_andL (pm_ushrL (x : Int) 1) 6148914691236517205)) 3689348814741910323) + (pm_andL (pm_ushrL ((x : Int) - (pm_andL (pm_ushrL (x : Int) 1) 6148914691236517205)) 2) 3689348814741910323)) 4)) 1085102592571150095) + (pm_ushrL (pm_andL (((pm_andL ((x : Int) - (pm_andL (pm_ushrL (x : Int) 1) 6148914691236517205)) 3689348814741910323) + (pm_andL (pm_ushrL ((x : Int) - (pm_andL (pm_ushrL (x : Int) 1) 6148914691236517205)) 2) 3689348814741910323)) + (pm_ushrL ((pm_andL ((x : Int) - (pm_andL (pm_ushrL (x : Int) 1) 6148914691236517205)) 3689348814741910323) + (pm_andL (pm_ushrL ((x : Int) - (pm_andL (pm_ushrL (x : Int) 1) 6148914691236517205)) 2) 3689348814741910323)) 4)) 1085102592571150095) 8))), (9, 0)]) lk_266_40 rfl rfl ?_
  refine g_lload_n lk_266_41 rfl ?_
  refine g_lload_n lk_266_42 rfl ?_
  refine g_bipush lk_266_43 ?_
  refine g_lushr lk_266_45 ?_
  refine g_ladd lk_266_46 ?_
  refine g_lstore_n (ls' := [(1, (((pm_andL (((pm_andL ((x : Int) - (pm_andL (pm_ushrL (x : Int) 1) 6148914691236517205)) 3689348814741910323) + (pm_andL (pm_ushrL ((x : Int) - (pm_andL (pm_ushrL (x : Int) 1) 6148914691236517205)) 2) 3689348814741910323)) + (pm_ushrL ((pm_andL ((x : Int) - (pm_andL (pm_ushrL (x : Int) 1) 6148914691236517205)) 3689348814741910323) + (pm_andL (pm_ushrL ((x : Int) - (pm_andL (pm_ushrL (x : Int) 1) 6148914691236517205)) 2) 3689348814741910323)) 4)) 1085102592571150095) + (pm_ushrL (pm_andL (((pm_andL ((x : Int) - (pm_andL (pm_ushrL (x : Int) 1) 6148914691236517205)) 3689348814741910323) + (pm_andL (pm_ushrL ((x : Int) - (pm_andL (pm_ushrL (x : Int) 1) 6148914691236517205)) 2) 3689348814741910323)) + (pm_ushrL ((pm_andL ((x : Int) - (pm_andL (pm_ushrL (x : Int) 1) 6148914691236517205)) 3689348814741910323) + (pm_andL (pm_ushrL ((x : Int) - (pm_andL (pm_ushrL (x : Int) 1) 6148914691236517205)) 2) 3689348814741910323)) 4)) 1085102592571150095) 8)) + (pm_ushrL ((pm_andL (((pm_andL ((x : Int) - (pm_andL (pm_ushrL (x : Int) 1) 6148914691236517205)) 3689348814741910323) + (pm_andL (pm_ushrL ((x : Int) - (pm_andL (pm_ushrL (x : Int) 1) 6148914691236517205)) 2) 3689348814741910323)) + (pm_ushrL ((pm_andL ((x : Int) - (pm_andL (pm_ushrL (x : Int) 1) 6148914691236517205)) 3689348814741910323) + (pm_andL (pm_ushrL ((x : Int) - (pm_andL (pm_ushrL (x : Int) 1) 6148914691236517205)) 2) 3689348814741910323)) 4)) 1085102592571150095) + (pm_ushrL (pm_andL (((pm_andL ((x : Int) - (pm_andL (pm_ushrL (x : Int) 1) 6148914691236517205)) 3689348814741910323) + (pm_andL (pm_ushrL ((x : Int) - (pm_andL (pm_ushrL (x : Int) 1) 6148914691236517205)) 2) 3689348814741910323)) + (pm_ushrL ((pm_andL ((x : Int) - (pm_andL (pm_ushrL (x : Int) 1) 6148914691236517205)) 3689348814741910323) + (pm_andL (pm_ushrL ((x : Int) - (pm_andL (pm_ushrL (x : Int) 1) 6148914691236517205)) 2) 3689348814741910323)) 4)) 1085102592571150095) 8)) 16))), (9, 0)]) lk_266_47 rfl rfl ?_
  refine g_lload_n lk_266_48 rfl ?_
  refine g_lload_n lk_266_49 rfl ?_
  refine g_bipush lk_266_50 ?_
  refine g_lushr lk_266_52 ?_
  refine g_ladd lk_266_53 ?_
  refine g_lstore_n (ls' := [(1, ((((pm_andL (((pm_andL ((x : Int) - (pm_andL (pm_ushrL (x : Int) 1) 6148914691236517205)) 3689348814741910323) + (pm_andL (pm_ushrL ((x : Int) - (pm_andL (pm_ushrL (x : Int) 1) 6148914691236517205)) 2) 3689348814741910323)) + (pm_ushrL ((pm_andL ((x : Int) - (pm_andL (pm_ushrL (x : Int) 1) 6148914691236517205)) 3689348814741910323) + (pm_andL (pm_ushrL ((x : Int) - (pm_andL (pm_ushrL (x : Int) 1) 6148914691236517205)) 2) 3689348814741910323)) 4)) 1085102592571150095) + (pm_ushrL (pm_andL (((pm_andL ((x : Int) - (pm_andL (pm_ushrL (x : Int) 1) 6148914691236517205)) 3689348814741910323) + (pm_andL (pm_ushrL ((x : Int) - (pm_andL (pm_ushrL (x : Int) 1) 6148914691236517205)) 2) 3689348814741910323)) + (pm_ushrL ((pm_andL ((x : Int) - (pm_andL (pm_ushrL (x : Int) 1) 6148914691236517205)) 3689348814741910323) + (pm_andL (pm_ushrL ((x : Int) - (pm_andL (pm_ushrL (x : Int) 1) 6148914691236517205)) 2) 3689348814741910323)) 4)) 1085102592571150095) 8)) + (pm_ushrL ((pm_andL (((pm_andL ((x : Int) - (pm_andL (pm_ushrL (x : Int) 1) 6148914691236517205)) 3689348814741910323) + (pm_andL (pm_ushrL ((x : Int) - (pm_andL (pm_ushrL (x : Int) 1) 6148914691236517205)) 2) 3689348814741910323)) + (pm_ushrL ((pm_andL ((x : Int) - (pm_andL (pm_ushrL (x : Int) 1) 6148914691236517205)) 3689348814741910323) + (pm_andL (pm_ushrL ((x : Int) - (pm_andL (pm_ushrL (x : Int) 1) 6148914691236517205)) 2) 3689348814741910323)) 4)) 1085102592571150095) + (pm_ushrL (pm_andL (((pm_andL ((x : Int) - (pm_andL (pm_ushrL (x : Int) 1) 6148914691236517205)) 3689348814741910323) + (pm_andL (pm_ushrL ((x : Int) - (pm_andL (pm_ushrL (x : Int) 1) 6148914691236517205)) 2) 3689348814741910323)) + (pm_ushrL ((pm_andL ((x : Int) - (pm_andL (pm_ushrL (x : Int) 1) 6148914691236517205)) 3689348814741910323) + (pm_andL (pm_ushrL ((x : Int) - (pm_andL (pm_ushrL (x : Int) 1) 6148914691236517205)) 2) 3689348814741910323)) 4)) 1085102592571150095) 8)) 16)) + (pm_ushrL (((pm_andL (((pm_andL ((x : Int) - (pm_andL (pm_ushrL (x : Int) 1) 6148914691236517205)) 3689348814741910323) + (pm_andL (pm_ushrL ((x : Int) - (pm_andL (pm_ushrL (x : Int) 1) 6148914691236517205)) 2) 3689348814741910323)) + (pm_ushrL ((pm_andL ((x : Int) - (pm_andL (pm_ushrL (x : Int) 1) 6148914691236517205)) 3689348814741910323) + (pm_andL (pm_ushrL ((x : Int) - (pm_andL (pm_ushrL (x : Int) 1) 6148914691236517205)) 2) 3689348814741910323)) 4)) 1085102592571150095) + (pm_ushrL (pm_andL (((pm_andL ((x : Int) - (pm_andL (pm_ushrL (x : Int) 1) 6148914691236517205)) 3689348814741910323) + (pm_andL (pm_ushrL ((x : Int) - (pm_andL (pm_ushrL (x : Int) 1) 6148914691236517205)) 2) 3689348814741910323)) + (pm_ushrL ((pm_andL ((x : Int) - (pm_andL (pm_ushrL (x : Int) 1) 6148914691236517205)) 3689348814741910323) + (pm_andL (pm_ushrL ((x : Int) - (pm_andL (pm_ushrL (x : Int) 1) 6148914691236517205)) 2) 3689348814741910323)) 4)) 1085102592571150095) 8)) + (pm_ushrL ((pm_andL (((pm_andL ((x : Int) - (pm_andL (pm_ushrL (x : Int) 1) 6148914691236517205)) 3689348814741910323) + (pm_andL (pm_ushrL ((x : Int) - (pm_andL (pm_ushrL (x : Int) 1) 6148914691236517205)) 2) 3689348814741910323)) + (pm_ushrL ((pm_andL ((x : Int) - (pm_andL (pm_ushrL (x : Int) 1) 6148914691236517205)) 3689348814741910323) + (pm_andL (pm_ushrL ((x : Int) - (pm_andL (pm_ushrL (x : Int) 1) 6148914691236517205)) 2) 3689348814741910323)) 4)) 1085102592571150095) + (pm_ushrL (pm_andL (((pm_andL ((x : Int) - (pm_andL (pm_ushrL (x : Int) 1) 6148914691236517205)) 3689348814741910323) + (pm_andL (pm_ushrL ((x : Int) - (pm_andL (pm_ushrL (x : Int) 1) 6148914691236517205)) 2) 3689348814741910323)) + (pm_ushrL ((pm_andL ((x : Int) - (pm_andL (pm_ushrL (x : Int) 1) 6148914691236517205)) 3689348814741910323) + (pm_andL (pm_ushrL ((x : Int) - (pm_andL (pm_ushrL (x : Int) 1) 6148914691236517205)) 2) 3689348814741910323)) 4)) 1085102592571150095) 8)) 16)) 32))), (9, 0)]) lk_266_54 rfl rfl ?_
  refine g_lload_n lk_266_55 rfl ?_
  refine g_l2i lk_266_56 ?_
  refine g_bipush lk_266_57 ?_
  refine g_iand lk_266_59 ?_
  refine g_ireturn lk_266_60 (fun h => absurd h (by decide)) ?_
  exact ⟨congrArg (fun z => some (0, z)) (bcL_eq hx), rfl⟩
