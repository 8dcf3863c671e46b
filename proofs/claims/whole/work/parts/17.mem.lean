/-! ===== memories by lists of changed cells (addresses are numerals) ===== -/
def al (l : List (Nat × (Nat → Int))) (a : Nat) (f : Nat → Int) : Nat → Int := match l with
  | [] => f
  | q :: t => if q.1 = a then q.2 else al t a f
def au (l : List (Nat × (Nat → Int))) (a : Nat) (f : Nat → Int) : List (Nat × (Nat → Int)) := match l with
  | [] => [(a, f)]
  | q :: t => if q.1 = a then (a, f) :: t else q :: au t a f
/-- the first in the list is the one that counts -/
def Mu (l : List (Nat × (Nat → Int))) (M : pm_M) : pm_M := match l with
  | [] => M
  | q :: t => pm_up (Mu t M) q.1 q.2
theorem Mu_1 (l : List (Nat × (Nat → Int))) (M : pm_M) : (Mu l M).1 = M.1 := by
  induction l with
  | nil => rfl
  | cons q t ih => exact ih
theorem Mu_ct (l : List (Nat × (Nat → Int))) (M : pm_M) (a : Nat) : pm_ct (Mu l M) a = al l a (pm_ct M a) := by
  induction l with
  | nil => rfl
  | cons q t ih =>
    show pm_ct (pm_up (Mu t M) q.1 q.2) a = if q.1 = a then q.2 else al t a (pm_ct M a)
    rw [pm_ct_up]
    by_cases h : a = q.1
    · rw [if_pos h, if_pos h.symm]
    · rw [if_neg h, if_neg (fun e => h e.symm), ih]
theorem Mu_kd (l : List (Nat × (Nat → Int))) (M : pm_M) (a : Nat) : pm_kd (Mu l M) a = pm_kd M a := by
  induction l with
  | nil => rfl
  | cons q t ih => show pm_kd (pm_up (Mu t M) q.1 q.2) a = _; rw [pm_kd_up, ih]
theorem Mu_ln (l : List (Nat × (Nat → Int))) (M : pm_M) (a : Nat) : pm_ln (Mu l M) a = pm_ln M a := by
  induction l with
  | nil => rfl
  | cons q t ih => show pm_ln (pm_up (Mu t M) q.1 q.2) a = _; rw [pm_ln_up, ih]
theorem pm_M_ext {M N : pm_M} (h1 : M.1 = N.1) (hk : ∀ a, pm_kd M a = pm_kd N a) (hl : ∀ a, pm_ln M a = pm_ln N a) (hc : ∀ a, pm_ct M a = pm_ct N a) : M = N := by
  obtain ⟨m1, m2⟩ := M
  obtain ⟨n1, n2⟩ := N
  have h1 : m1 = n1 := h1
  subst h1
  congr 1
  funext a
  have e1 : (m2 a).1 = (n2 a).1 := hk a
  have e2 : (m2 a).2.1 = (n2 a).2.1 := hl a
  have e3 : (m2 a).2.2 = (n2 a).2.2 := hc a
  exact Prod.ext e1 (Prod.ext e2 e3)
theorem al_au (l : List (Nat × (Nat → Int))) (a b : Nat) (f g : Nat → Int) : al (au l a f) b g = if a = b then f else al l b g := by
  induction l with
  | nil => rfl
  | cons q t ih =>
    show al (if q.1 = a then (a, f) :: t else q :: au t a f) b g = _
    by_cases h : q.1 = a
    · rw [if_pos h]
      show (if a = b then f else al t b g) = if a = b then f else (if q.1 = b then q.2 else al t b g)
      by_cases hb : a = b
      · rw [if_pos hb, if_pos hb]
      · rw [if_neg hb, if_neg hb, if_neg (by rw [h]; exact hb)]
    · rw [if_neg h]
      show (if q.1 = b then q.2 else al (au t a f) b g) = if a = b then f else (if q.1 = b then q.2 else al t b g)
      rw [ih]
      by_cases hb : q.1 = b
      · rw [if_pos hb, if_pos hb, if_neg (fun e => h (hb.trans e.symm))]
      · rw [if_neg hb, if_neg hb]
theorem Mu_up (l : List (Nat × (Nat → Int))) (M : pm_M) (a : Nat) (f : Nat → Int) : pm_up (Mu l M) a f = Mu (au l a f) M := by
  apply pm_M_ext
  · rw [Mu_1]; exact Mu_1 l M
  · intro b; rw [pm_kd_up, Mu_kd, Mu_kd]
  · intro b; rw [pm_ln_up, Mu_ln, Mu_ln]
  · intro b
    rw [pm_ct_up, Mu_ct, Mu_ct, al_au]
    by_cases h : b = a
    · rw [if_pos h, if_pos h.symm]
    · rw [if_neg h, if_neg (fun e => h e.symm)]
theorem pm_upd_upd (f : Nat → Int) (k : Nat) (a b : Int) : pm_upd (pm_upd f k a) k b = pm_upd f k b := by
  funext j
  unfold pm_upd
  split <;> rfl
def aus (l u : List (Nat × (Nat → Int))) : List (Nat × (Nat → Int)) := match l with
  | [] => u
  | q :: t => au (aus t u) q.1 q.2
theorem Mu_aus (l u : List (Nat × (Nat → Int))) (M : pm_M) : Mu l (Mu u M) = Mu (aus l u) M := by
  induction l with
  | nil => rfl
  | cons q t ih => show pm_up (Mu t (Mu u M)) q.1 q.2 = Mu (au (aus t u) q.1 q.2) M; rw [ih, Mu_up]
/-- two lists one behind the other -/
theorem Mu_Mu (l k : List (Nat × (Nat → Int))) (M : pm_M) : Mu l (Mu k M) = Mu (l ++ k) M := by
  induction l with
  | nil => rfl
  | cons q t ih => show pm_up (Mu t (Mu k M)) q.1 q.2 = pm_up (Mu (t ++ k) M) q.1 q.2; rw [ih]
theorem Lay.muA {M : pm_M} {l l' : List (Nat × (Nat → Int))} (h : Lay (Mu l M)) {a : Nat} {f : Nat → Int} (ha : layF.getD a [] = []) (hl : au l a f = l') : Lay (Mu l' M) := by
  rw [← hl, ← Mu_up]; exact h.upA ha
theorem Lay.muF {M : pm_M} {l l' : List (Nat × (Nat → Int))} (h : Lay (Mu l M)) {a k : Nat} {z : Int} (ha : layR a k = none) (hl : au l a (pm_upd (al l a (pm_ct M a)) k z) = l') : Lay (Mu l' M) := by
  rw [← hl, ← Mu_up, ← Mu_ct]; exact h.upF ha
section G2
variable {d y pc l e1 e2 e4 : Nat} {e3 : Int} {ls st r : List pm_V} {M : pm_M} {cb sb : Nat} {Q : pm_Q} {a b z : Int} {k : Nat} {u u' : List (Nat × (Nat → Int))}
theorem m_putfield {n p t : Nat} (h : Lk y pc (.putfield n) e1 e2 e3) (ht : e3.toNat = t) (ho : pm_on (Mu u M) p e1) (hz : pm_ft e1 e2 = .boolean → z = 0 ∨ z = 1) (hu : au u p (pm_upd (al u p (pm_ct M p)) e2 z) = u') (k : Wp d y (pc + 3) ls r (Mu u' M) cb sb Q) : Wp d y pc ls ((t, z) :: (2, (p : Int)) :: r) (Mu u M) cb sb Q :=
  g_putfield h ht ho hz (by rw [Mu_ct, Mu_up, hu]; exact k)
theorem m_iastore {p n : Nat} (h : Lk y pc .iastore e1 e2 e3) (ha : pm_ay (Mu u M) p 100 n) (hi : 0 ≤ a ∧ a < n) {j : Nat} (hj : a.toNat = j) (hu : au u p (pm_upd (al u p (pm_ct M p)) j z) = u') (k : Wp d y (pc + 1) ls r (Mu u' M) cb sb Q) : Wp d y pc ls ((0, z) :: (0, a) :: (2, (p : Int)) :: r) (Mu u M) cb sb Q :=
  g_iastore h ha hi (by rw [hj, Mu_ct, Mu_up, hu]; exact k)
theorem m_lastore {p n : Nat} (h : Lk y pc .lastore e1 e2 e3) (ha : pm_ay (Mu u M) p 101 n) (hi : 0 ≤ a ∧ a < n) {j : Nat} (hj : a.toNat = j) (hu : au u p (pm_upd (al u p (pm_ct M p)) j z) = u') (k : Wp d y (pc + 1) ls r (Mu u' M) cb sb Q) : Wp d y pc ls ((1, z) :: (0, a) :: (2, (p : Int)) :: r) (Mu u M) cb sb Q :=
  g_lastore h ha hi (by rw [hj, Mu_ct, Mu_up, hu]; exact k)
theorem m_bastore {p n : Nat} (h : Lk y pc .bastore e1 e2 e3) (ha : pm_ay (Mu u M) p 102 n) (hi : 0 ≤ a ∧ a < n) {j : Nat} (hj : a.toNat = j) (hu : au u p (pm_upd (al u p (pm_ct M p)) j (pm_b8 z)) = u') (k : Wp d y (pc + 1) ls r (Mu u' M) cb sb Q) : Wp d y pc ls ((0, z) :: (0, a) :: (2, (p : Int)) :: r) (Mu u M) cb sb Q :=
  g_bastore h ha hi (by rw [hj, Mu_ct, Mu_up, hu]; exact k)
theorem m_getfield {n p t : Nat} (h : Lk y pc (.getfield n) e1 e2 e3) (ht : e3.toNat = t) (ho : pm_on (Mu u M) p e1) {v : Int} (hv : al u p (pm_ct M p) e2 = v) (k : Wp d y (pc + 3) ls ((t, v) :: r) (Mu u M) cb sb Q) : Wp d y pc ls ((2, (p : Int)) :: r) (Mu u M) cb sb Q := g_getfield h ht ho (by rw [Mu_ct]; exact hv) k
theorem m_iaload {p n : Nat} (h : Lk y pc .iaload e1 e2 e3) (ha : pm_ay (Mu u M) p 100 n) (hi : 0 ≤ a ∧ a < n) {v : Int} {j : Nat} (hj : a.toNat = j) (hv : al u p (pm_ct M p) j = v) (k : Wp d y (pc + 1) ls ((0, v) :: r) (Mu u M) cb sb Q) : Wp d y pc ls ((0, a) :: (2, (p : Int)) :: r) (Mu u M) cb sb Q := g_iaload h ha hi (by rw [hj, Mu_ct]; exact hv) k
theorem m_laload {p n : Nat} (h : Lk y pc .laload e1 e2 e3) (ha : pm_ay (Mu u M) p 101 n) (hi : 0 ≤ a ∧ a < n) {v : Int} {j : Nat} (hj : a.toNat = j) (hv : al u p (pm_ct M p) j = v) (k : Wp d y (pc + 1) ls ((1, v) :: r) (Mu u M) cb sb Q) : Wp d y pc ls ((0, a) :: (2, (p : Int)) :: r) (Mu u M) cb sb Q := g_laload h ha hi (by rw [hj, Mu_ct]; exact hv) k
theorem m_baload {p n : Nat} (h : Lk y pc .baload e1 e2 e3) (ha : pm_ay (Mu u M) p 102 n) (hi : 0 ≤ a ∧ a < n) {v : Int} {j : Nat} (hj : a.toNat = j) (hv : al u p (pm_ct M p) j = v) (k : Wp d y (pc + 1) ls ((0, v) :: r) (Mu u M) cb sb Q) : Wp d y pc ls ((0, a) :: (2, (p : Int)) :: r) (Mu u M) cb sb Q := g_baload h ha hi (by rw [hj, Mu_ct]; exact hv) k
theorem g_mmax {n : Nat} (h : Lk y pc (.invokestatic n) 1000 e2 e3) (ha : pm_inI a) (hb : pm_inI b) (hs : (r.map pm_cat).sum ≤ 8) (k : Wp (d + 1) y (pc + 3) ls ((0, max a b) :: r) M cb sb Q) : Wp (d + 1) y pc ls ((0, b) :: (0, a) :: r) M cb sb Q :=
  g_at h (show pm_i2 ((0, b) :: (0, a) :: r) (fun a b r => 1 ≤ d + 1 ∧ (r.map pm_cat).sum ≤ 8 ∧ Wp (d + 1) y (pc + 3) ls ((0, if pm_wI a < pm_wI b then b else a) :: r) M cb sb Q) by
    refine ⟨by omega, hs, ?_⟩
    rw [pm_wI_of ha, pm_wI_of hb, show (if a < b then b else a) = max a b by omega]; exact k)
theorem g_mmin {n : Nat} (h : Lk y pc (.invokestatic n) 1001 e2 e3) (ha : pm_inI a) (hb : pm_inI b) (hs : (r.map pm_cat).sum ≤ 8) (k : Wp (d + 1) y (pc + 3) ls ((0, min a b) :: r) M cb sb Q) : Wp (d + 1) y pc ls ((0, b) :: (0, a) :: r) M cb sb Q :=
  g_at h (show pm_i2 ((0, b) :: (0, a) :: r) (fun a b r => 1 ≤ d + 1 ∧ (r.map pm_cat).sum ≤ 8 ∧ Wp (d + 1) y (pc + 3) ls ((0, if pm_wI b < pm_wI a then b else a) :: r) M cb sb Q) by
    refine ⟨by omega, hs, ?_⟩
    rw [pm_wI_of ha, pm_wI_of hb, show (if b < a then b else a) = min a b by omega]; exact k)
theorem g_lmin {n : Nat} (h : Lk y pc (.invokestatic n) 1002 e2 e3) (ha : pm_inL a) (hb : pm_inL b) (hs : (r.map pm_cat).sum ≤ 8) (k : Wp (d + 1) y (pc + 3) ls ((1, min a b) :: r) M cb sb Q) : Wp (d + 1) y pc ls ((1, b) :: (1, a) :: r) M cb sb Q :=
  g_at h (show pm_l2 ((1, b) :: (1, a) :: r) (fun a b r => 1 ≤ d + 1 ∧ (r.map pm_cat).sum ≤ 8 ∧ Wp (d + 1) y (pc + 3) ls ((1, if pm_wL b < pm_wL a then b else a) :: r) M cb sb Q) by
    refine ⟨by omega, hs, ?_⟩
    rw [pm_wL_of ha, pm_wL_of hb, show (if b < a then b else a) = min a b by omega]; exact k)
theorem g_lsw {n : Int} {ps : Array (Int × Int)} (h : Lk y pc (.lookupswitch n ps) e1 e2 e3) (ha : pm_inI a) (k : pm_lk a (fun o => Wp d y ((pc : Int) + o).toNat ls r M cb sb Q) n ps.toList) : Wp d y pc ls ((0, a) :: r) M cb sb Q :=
  g_at h (show pm_lk (pm_wI a) (fun o => Wp d y ((pc : Int) + o).toNat ls r M cb sb Q) n ps.toList by rw [pm_wI_of ha]; exact k)
theorem g_tsw {n lo hi : Int} {os : Array Int} (h : Lk y pc (.tableswitch n lo hi os) e1 e2 e3) (ha : pm_inI a) (k : pm_tb a (fun o => Wp d y ((pc : Int) + o).toNat ls r M cb sb Q) n lo os.toList) : Wp d y pc ls ((0, a) :: r) M cb sb Q :=
  g_at h (show pm_tb (pm_wI a) (fun o => Wp d y ((pc : Int) + o).toNat ls r M cb sb Q) n lo os.toList by rw [pm_wI_of ha]; exact k)
end G2
theorem pm_b8_eq (z : Int) : pm_b8 z = z.bmod 256 := by
  unfold pm_b8
  rw [Int32.toInt8_ofInt, Int8.toInt_toInt32, Int8.toInt_ofInt]
theorem pm_and255 (z : Int) : pm_and z 255 = z % 256 := by
  unfold pm_and
  have h1 : (Int32.ofInt z &&& Int32.ofInt 255).toBitVec = BitVec.ofInt 32 z &&& 255#32 := rfl
  have h2 : (BitVec.ofInt 32 z &&& 255#32).toNat = (z % 256).toNat := by
    rw [BitVec.toNat_and]
    show (BitVec.ofInt 32 z).toNat &&& (2 ^ 8 - 1) = _
    rw [Nat.and_two_pow_sub_one_eq_mod, BitVec.toNat_ofInt]
    omega
  have h3 : (Int32.ofInt z &&& Int32.ofInt 255).toInt = (BitVec.ofInt 32 z &&& 255#32).toInt := rfl
  rw [h3, BitVec.toInt_eq_toNat_cond, h2]
  split <;> omega
