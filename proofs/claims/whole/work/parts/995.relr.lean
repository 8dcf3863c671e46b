/-! ===== the reference's elimination beside the class's ===== -/
def euc (p : Nat) : Bool := (List.range p).all (fun a => (List.range p).all (fun b => a == 0 || b == 0 || a * b % p != 0))
theorem euc_tab : ∀ n : Fin 98, 2 ≤ (n : Nat) → tdv (n : Nat) 10 2 = true → euc (n : Nat) = true := by decide +kernel
def Eu (p : Nat) : Prop := ∀ a b : Int, (p : Int) ∣ a * b → (p : Int) ∣ a ∨ (p : Int) ∣ b
theorem Eu_of {p : Nat} (hp : 1 ≤ p) (h : euc p = true) : Eu p := by
  intro a b hab
  unfold euc at h
  rw [List.all_eq_true] at h
  have pp : (p : Int) ≠ 0 := by omega
  have a1 := Int.emod_nonneg a pp
  have a2 := Int.emod_lt_of_pos a (show 0 < (p : Int) by omega)
  have b1 := Int.emod_nonneg b pp
  have b2 := Int.emod_lt_of_pos b (show 0 < (p : Int) by omega)
  have m0 := Int.emod_eq_zero_of_dvd hab
  rw [Int.mul_emod] at m0
  obtain ⟨x, hx⟩ := Int.eq_ofNat_of_zero_le a1
  obtain ⟨y, hy⟩ := Int.eq_ofNat_of_zero_le b1
  rw [hx] at a2 m0
  rw [hy] at b2 m0
  have k := h x (List.mem_range.mpr (by omega))
  rw [List.all_eq_true] at k
  have k2 := k y (List.mem_range.mpr (by omega))
  have m1 : x * y % p = 0 := by
    have e : ((x * y % p : Nat) : Int) = 0 := by rw [Int.natCast_emod, Int.natCast_mul]; exact m0
    omega
  simp only [Bool.or_eq_true, beq_iff_eq, bne_iff_ne, ne_eq] at k2
  rcases k2 with (k2 | k2) | k2
  · left; exact Int.dvd_of_emod_eq_zero (by rw [hx, k2]; rfl)
  · right; exact Int.dvd_of_emod_eq_zero (by rw [hy, k2]; rfl)
  · exact absurd m1 k2
theorem tm_dvd (v : Int) (p : Nat) : (p : Int) ∣ v - v.tmod p := by
  cases v with
  | ofNat m =>
    have e : (Int.ofNat m).tmod (p : Int) = ((m % p : Nat) : Int) := rfl
    rw [e]
    refine ⟨((m / p : Nat) : Int), ?_⟩
    have := Nat.div_add_mod m p
    rw [← Int.natCast_mul]
    show (m : Int) - ((m % p : Nat) : Int) = _
    omega
  | negSucc m =>
    have e : (Int.negSucc m).tmod (p : Int) = -(((m + 1) % p : Nat) : Int) := rfl
    rw [e]
    refine ⟨-(((m + 1) / p : Nat) : Int), ?_⟩
    have := Nat.div_add_mod (m + 1) p
    rw [Int.mul_neg, ← Int.natCast_mul]
    rw [Int.negSucc_eq]
    omega
theorem tm_bd (v : Int) {p : Nat} (hp : 1 ≤ p) : -(p : Int) < v.tmod p ∧ v.tmod p < p := by
  have h := Int.natAbs_tmod v p
  have h2 := Nat.mod_lt v.natAbs hp
  rw [Int.natAbs_natCast] at h
  rw [← h] at h2
  omega
/-- a rest from 0 on -/
def nrm (v : Int) (p : Nat) : Int := (v.tmod p + p).tmod p
theorem nrm_ok (v : Int) {p : Nat} (hp : 1 ≤ p) : (0 ≤ nrm v p ∧ nrm v p < p) ∧ (p : Int) ∣ v - nrm v p := by
  have b := tm_bd v hp
  have d1 := tm_dvd v p
  have d2 := tm_dvd (v.tmod p + p) p
  obtain ⟨m, hm⟩ := Int.eq_ofNat_of_zero_le (show 0 ≤ v.tmod p + p by omega)
  have e : nrm v p = ((m % p : Nat) : Int) := by unfold nrm; rw [hm]; rfl
  have := Nat.mod_lt m hp
  refine ⟨by rw [e]; omega, ?_⟩
  unfold nrm
  obtain ⟨k1, h1⟩ := d1
  obtain ⟨k2, h2⟩ := d2
  refine ⟨k1 + k2 - 1, ?_⟩
  generalize v.tmod p = w at *
  generalize (w + p).tmod p = w2 at *
  grind
/-- the greatest divisor of some -/
def gV (v : Nat → Int) : Nat → Nat
  | 0 => 0
  | k + 1 => Nat.gcd (gV v k) (v k).natAbs
theorem gV_dvd (v : Nat → Int) {i : Nat} : ∀ {k : Nat}, i < k → gV v k ∣ (v i).natAbs
  | k + 1, h => by
    show Nat.gcd (gV v k) (v k).natAbs ∣ _
    by_cases e : i = k
    · rw [e]; exact Nat.gcd_dvd_right _ _
    · exact Nat.dvd_trans (Nat.gcd_dvd_left _ _) (gV_dvd v (k := k) (by omega))
theorem gV_mul {v : Nat → Int} {B K : Nat} : ∀ {k : Nat}, (∀ i, i < k → B ∣ K * (v i).natAbs) → B ∣ K * gV v k
  | 0, _ => ⟨0, by show K * 0 = B * 0; omega⟩
  | k + 1, h => by
    show B ∣ K * Nat.gcd (gV v k) (v k).natAbs
    rw [← Nat.gcd_mul_left]
    exact Nat.dvd_gcd (gV_mul (fun i hi => h i (by omega))) (h k (by omega))
theorem gV_z {v : Nat → Int} : ∀ {k : Nat}, gV v k = 0 → ∀ i, i < k → v i = 0
  | k + 1, h, i, hi => by
    replace h : Nat.gcd (gV v k) (v k).natAbs = 0 := h
    have a := Nat.eq_zero_of_gcd_eq_zero_left h
    have b := Nat.eq_zero_of_gcd_eq_zero_right h
    by_cases e : i = k
    · rw [e]; omega
    · exact gV_z a i (by omega)
def vv (yr yn : Nat → Int) (c : Nat) (i : Nat) : Int := yr i * yn c - yn i * yr c
/-- a row of the reference when another is taken off -/
def tk (p C : Nat) (yr yn : Nat → Int) (c : Nat) (i : Nat) : Int := if p = 0 then (if gV (vv yr yn c) C ≤ 1 then vv yr yn c i else (vv yr yn c i).tdiv (gV (vv yr yn c) C)) else nrm (vv yr yn c i) p
/-- a row of the class beside one of the reference -/
def RR (p C c : Nat) (x y : Nat → Int) : Prop := (p = 0 ∧ (∃ k : Int, k ≠ 0 ∧ ∀ i, c ≤ i → i < C → x i = k * y i) ∧ ∀ i, i < c → y i = 0) ∨ (1 ≤ p ∧ (∃ a k : Int, ¬ (p : Int) ∣ a ∧ ¬ (p : Int) ∣ k ∧ ∀ i, c ≤ i → i < C → (p : Int) ∣ a * x i - k * y i) ∧ ∀ i, i < C → 0 ≤ y i ∧ y i < p)
theorem RR.z {p C c : Nat} {x y : Nat → Int} (h : RR p C c x y) (hE : 1 ≤ p → Eu p) (hx : 1 ≤ p → (x c).natAbs < p) (hc : c < C) : x c = 0 ↔ y c = 0 := by
  rcases h with ⟨_, ⟨k, k0, hk⟩, _⟩ | ⟨hp, ⟨a, k, ha, hk, h⟩, hy⟩
  · rw [hk c (Nat.le_refl _) hc]
    constructor
    · intro e
      rcases Int.mul_eq_zero.mp e with q | q
      · exact absurd q k0
      · exact q
    · intro e; rw [e, Int.mul_zero]
  · have hcc := h c (Nat.le_refl _) hc
    have y0 := hy c hc
    have x0 := hx hp
    constructor
    · intro e
      rw [e, Int.mul_zero, Int.zero_sub] at hcc
      have h2 : (p : Int) ∣ k * y c := by rwa [Int.dvd_neg] at hcc
      rcases hE hp _ _ h2 with q | q
      · exact absurd q hk
      · obtain ⟨w, hw⟩ := q
        rcases (by omega : w ≤ -1 ∨ w = 0 ∨ 1 ≤ w) with q1 | q1 | q1
        · have : (p : Int) * w ≤ (p : Int) * (-1) := Int.mul_le_mul_of_nonneg_left q1 (by omega)
          omega
        · rw [hw, q1, Int.mul_zero]
        · have : (p : Int) * 1 ≤ (p : Int) * w := Int.mul_le_mul_of_nonneg_left q1 (by omega)
          omega
    · intro e
      rw [e, Int.mul_zero, Int.sub_zero] at hcc
      rcases hE hp _ _ hcc with q | q
      · exact absurd q ha
      · obtain ⟨w, hw⟩ := q
        rcases (by omega : w ≤ -1 ∨ w = 0 ∨ 1 ≤ w) with q1 | q1 | q1
        · have : (p : Int) * w ≤ (p : Int) * (-1) := Int.mul_le_mul_of_nonneg_left q1 (by omega)
          omega
        · rw [hw, q1, Int.mul_zero]
        · have : (p : Int) * 1 ≤ (p : Int) * w := Int.mul_le_mul_of_nonneg_left q1 (by omega)
          omega
theorem RR.col {p C c : Nat} {x y : Nat → Int} (h : RR p C c x y) (hy : y c = 0) : RR p C (c + 1) x y := by
  rcases h with ⟨h1, ⟨k, k0, hk⟩, h3⟩ | ⟨hp, ⟨a, k, ha, hk, h⟩, h3⟩
  · refine Or.inl ⟨h1, ⟨k, k0, fun i q1 q2 => hk i (by omega) q2⟩, fun i q => ?_⟩
    by_cases e : i = c
    · rw [e]; exact hy
    · exact h3 i (by omega)
  · exact Or.inr ⟨hp, ⟨a, k, ha, hk, fun i q1 q2 => h i (by omega) q2⟩, h3⟩
/-- entries of the reference are small -/
theorem RR.bd {p C c : Nat} {x y : Nat → Int} (h : RR p C c x y) (hp : p ≤ 97) (hx : ∀ i, c ≤ i → i < C → (x i).natAbs ≤ 400000000) {i : Nat} (hi : i < C) : (y i).natAbs ≤ 400000000 := by
  rcases h with ⟨_, ⟨k, k0, hk⟩, h3⟩ | ⟨_, _, h3⟩
  · by_cases e : i < c
    · rw [h3 i e]; decide
    · have h1 := hx i (by omega) hi
      rw [hk i (by omega) hi, Int.natAbs_mul] at h1
      have h2 : 1 * (y i).natAbs ≤ k.natAbs * (y i).natAbs := Nat.mul_le_mul (by omega) (Nat.le_refl _)
      omega
  · have := h3 i hi
    omega
theorem mod_alg {P a1 a2 k1 k2 A B E D A' B' E' D' w w2 u1 u2 u3 u4 u5 u6 : Int} (e1 : a1 * A - k1 * A' = P * u1) (e2 : a2 * B - k2 * B' = P * u2) (e3 : a2 * E - k2 * E' = P * u3) (e4 : a1 * D - k1 * D' = P * u4) (e5 : A * B - E * D - w = P * u5) (e6 : A' * B' - E' * D' - w2 = P * u6) : a1 * a2 * w - k1 * k2 * w2 = P * (u1 * (a2 * B) + (k1 * A') * u2 - u3 * (a1 * D) - (k2 * E') * u4 - a1 * a2 * u5 + k1 * k2 * u6) := by
  have h : P * (u1 * (a2 * B) + (k1 * A') * u2 - u3 * (a1 * D) - (k2 * E') * u4 - a1 * a2 * u5 + k1 * k2 * u6) = (P * u1) * (a2 * B) + (k1 * A') * (P * u2) - (P * u3) * (a1 * D) - (k2 * E') * (P * u4) - a1 * a2 * (P * u5) + k1 * k2 * (P * u6) := by
    clear e1 e2 e3 e4 e5 e6
    grind
  rw [h, ← e1, ← e2, ← e3, ← e4, ← e5, ← e6]
  clear h e1 e2 e3 e4 e5 e6
  grind
theorem RR.stp {p C c : Nat} {b : Int} {xr xn yr yn x' : Nat → Int} (hr : RR p C c xr yr) (hn : RR p C c xn yn) (hE : 1 ≤ p → Eu p) (hc : c < C) (hb : p = 0 → b ≠ 0) (hX : p = 0 → ∀ i, c ≤ i → i < C → b * x' i = xr i * xn c - xn i * xr c) (hXp : 1 ≤ p → ∀ i, c ≤ i → i < C → x' i = (xr i * xn c - xn i * xr c).tmod p) : RR p C (c + 1) x' (tk p C yr yn c) := by
  rcases hr with ⟨p0, ⟨k1, k10, hk1⟩, z1⟩ | ⟨hp, ⟨a1, k1, na1, nk1, h1⟩, y1⟩
  · rcases hn with ⟨_, ⟨k2, k20, hk2⟩, z2⟩ | ⟨hp, _⟩
    rotate_left
    · omega
    have hb0 := hb p0
    have hX0 := hX p0
    obtain ⟨V, hV⟩ : ∃ V, V = vv yr yn c := ⟨_, rfl⟩
    have Vz : ∀ i, i ≤ c → V i = 0 := fun i hi => by
      rw [hV]
      show yr i * yn c - yn i * yr c = 0
      by_cases e : i = c
      · rw [e, Int.mul_comm]; omega
      · rw [z1 i (by omega), z2 i (by omega)]; omega
    have bV : ∀ i, c ≤ i → i < C → b * x' i = k1 * k2 * V i := fun i q1 q2 => by
      rw [hX0 i q1 q2, hk1 i q1 q2, hk2 c (Nat.le_refl _) hc, hk2 i q1 q2, hk1 c (Nat.le_refl _) hc, hV]
      show k1 * yr i * (k2 * yn c) - k2 * yn i * (k1 * yr c) = k1 * k2 * (yr i * yn c - yn i * yr c)
      grind
    obtain ⟨g, hg⟩ : ∃ g, g = gV V C := ⟨_, rfl⟩
    have et : ∀ i, tk p C yr yn c i = if g ≤ 1 then V i else (V i).tdiv g := fun i => by
      unfold tk
      rw [if_pos p0, ← hV, ← hg]
    have K0 : k1 * k2 ≠ 0 := Int.mul_ne_zero k10 k20
    obtain ⟨K, hK⟩ : ∃ K, K = k1 * k2 := ⟨_, rfl⟩
    rw [← hK] at bV K0
    refine Or.inl ⟨p0, ?_, fun i hi => ?_⟩
    rotate_left
    · rw [et, Vz i (by omega)]
      split
      · rfl
      · exact Int.zero_tdiv _
    by_cases g0 : g = 0
    · have vz := gV_z (v := V) (k := C) (by rw [← hg]; exact g0)
      refine ⟨1, by omega, fun i q1 q2 => ?_⟩
      rw [et, if_pos (by omega), vz i q2]
      have := bV i (by omega) q2
      rw [vz i q2, Int.mul_zero] at this
      rcases Int.mul_eq_zero.mp this with q | q
      · exact absurd q hb0
      · rw [q]; rfl
    · have dv : ∀ i, i < C → ∃ w : Int, V i = g * w := fun i hi => by
        have d := gV_dvd V (i := i) (k := C) hi
        rw [← hg] at d
        exact Int.natAbs_dvd_natAbs.mp (by rw [Int.natAbs_natCast]; exact d)
      have bd : b.natAbs ∣ K.natAbs * g := by
        rw [hg]
        refine gV_mul (fun i hi => ?_)
        rw [← Int.natAbs_mul]
        by_cases e : i < c
        · rw [Vz i (by omega), Int.mul_zero]; exact ⟨0, rfl⟩
        · rw [← bV i (by omega) hi, Int.natAbs_mul]; exact ⟨_, rfl⟩
      obtain ⟨k', hk'⟩ : ∃ k' : Int, K * g = b * k' := by
        have : b ∣ K * g := Int.natAbs_dvd_natAbs.mp (by rw [Int.natAbs_mul, Int.natAbs_natCast]; exact bd)
        exact this
      have kg : K * (g : Int) ≠ 0 := Int.mul_ne_zero K0 (by omega)
      refine ⟨k', fun e => kg (by rw [hk', e, Int.mul_zero]), fun i q1 q2 => ?_⟩
      obtain ⟨w, hw⟩ := dv i q2
      have ew : tk p C yr yn c i = w := by
        rw [et, hw]
        by_cases g1 : g ≤ 1
        · rw [if_pos g1, show g = 1 by omega]
          show (1 : Int) * w = w
          omega
        · rw [if_neg g1]
          exact Int.mul_tdiv_cancel_left w (by omega)
      rw [ew]
      refine Int.eq_of_mul_eq_mul_left hb0 ?_
      rw [bV i (by omega) q2, hw, ← Int.mul_assoc, hk', Int.mul_assoc]
  · rcases hn with ⟨p0, _⟩ | ⟨_, ⟨a2, k2, na2, nk2, h2⟩, y2⟩
    · omega
    refine Or.inr ⟨hp, ⟨a1 * a2, k1 * k2, fun q => ?_, fun q => ?_, fun i q1 q2 => ?_⟩, fun i hi => ?_⟩
    · rcases hE hp _ _ q with e | e
      · exact na1 e
      · exact na2 e
    · rcases hE hp _ _ q with e | e
      · exact nk1 e
      · exact nk2 e
    · have et : tk p C yr yn c i = nrm (vv yr yn c i) p := by unfold tk; rw [if_neg (by omega)]
      rw [et, hXp hp i (by omega) q2]
      obtain ⟨u1, e1⟩ := h1 i (by omega) q2
      obtain ⟨u2, e2⟩ := h2 c (Nat.le_refl _) hc
      obtain ⟨u3, e3⟩ := h2 i (by omega) q2
      obtain ⟨u4, e4⟩ := h1 c (Nat.le_refl _) hc
      obtain ⟨u5, e5⟩ := tm_dvd (xr i * xn c - xn i * xr c) p
      obtain ⟨u6, e6⟩ := (nrm_ok (vv yr yn c i) hp).2
      have ev : vv yr yn c i = yr i * yn c - yn i * yr c := rfl
      rw [ev] at e6 ⊢
      exact ⟨_, mod_alg e1 e2 e3 e4 e5 e6⟩
    · have et : tk p C yr yn c i = nrm (vv yr yn c i) p := by unfold tk; rw [if_neg (by omega)]
      rw [et]
      exact (nrm_ok _ hp).1
