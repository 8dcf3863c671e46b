/-! ===== the least of some; sets of bits ===== -/
theorem g_top {d y pc t : Nat} {ls st : List pm_V} {M : pm_M} {cb sb : Nat} {Q : pm_Q} {z z' : Int} (h : z = z') (k : Wp d y pc ls ((t, z') :: st) M cb sb Q) : Wp d y pc ls ((t, z) :: st) M cb sb Q := by rw [h]; exact k
theorem g_loc {d y pc : Nat} {ls ls' st : List pm_V} {M : pm_M} {cb sb : Nat} {Q : pm_Q} (h : ls = ls') (k : Wp d y pc ls' st M cb sb Q) : Wp d y pc ls st M cb sb Q := by rw [h]; exact k
def mn (C : Nat → Bool) (f : Nat → Nat) : Nat → Nat
  | 0 => 1000000
  | n + 1 => if C n then min (mn C f n) (f n) else mn C f n
theorem mn_s (C : Nat → Bool) (f : Nat → Nat) (n : Nat) : mn C f (n + 1) = if C n then min (mn C f n) (f n) else mn C f n := rfl
theorem mn_far (C : Nat → Bool) (f : Nat → Nat) : ∀ n, mn C f n ≤ 1000000
  | 0 => Nat.le_refl _
  | n + 1 => by
    have := mn_far C f n
    rw [mn_s]
    split <;> omega
theorem mn_le (C : Nat → Bool) (f : Nat → Nat) : ∀ n q, q < n → C q = true → mn C f n ≤ f q
  | 0, q, h, _ => absurd h (Nat.not_lt_zero q)
  | n + 1, q, h, hc => by
    rw [mn_s]
    by_cases e : q = n
    · subst e; rw [if_pos hc]; omega
    · have := mn_le C f n q (by omega) hc
      split <;> omega
theorem mn_ex (C : Nat → Bool) (f : Nat → Nat) : ∀ n, mn C f n = 1000000 ∨ ∃ q, q < n ∧ C q = true ∧ mn C f n = f q
  | 0 => Or.inl rfl
  | n + 1 => by
    rw [mn_s]
    have ih := mn_ex C f n
    by_cases hc : C n = true
    · rw [if_pos hc]
      by_cases hl : f n ≤ mn C f n
      · exact Or.inr ⟨n, by omega, hc, by omega⟩
      · rw [show min (mn C f n) (f n) = mn C f n by omega]
        rcases ih with h | ⟨q, h1, h2, h3⟩
        · exact Or.inl h
        · exact Or.inr ⟨q, by omega, h2, h3⟩
    · rw [if_neg hc]
      rcases ih with h | ⟨q, h1, h2, h3⟩
      · exact Or.inl h
      · exact Or.inr ⟨q, by omega, h2, h3⟩
def Ach (C : Nat → Bool) (f : Nat → Nat) (n m : Nat) : Prop := m = 1000000 ∨ ∃ q, q < n ∧ C q = true ∧ m = f q
theorem mn_uniq {C : Nat → Bool} {f : Nat → Nat} {n m : Nat} (h1 : m ≤ 1000000) (h2 : ∀ q, q < n → C q = true → m ≤ f q) (h3 : Ach C f n m) : m = mn C f n := by
  apply Nat.le_antisymm
  · rcases mn_ex C f n with h | ⟨q, k1, k2, k3⟩
    · omega
    · rw [k3]; exact h2 q k1 k2
  · rcases h3 with h | ⟨q, k1, k2, k3⟩
    · rw [h]; exact mn_far C f n
    · rw [k3]; exact mn_le C f n q k1 k2
theorem mn_congr {C D : Nat → Bool} {f g : Nat → Nat} : ∀ {n : Nat}, (∀ q, q < n → C q = D q) → (∀ q, q < n → C q = true → f q = g q) → mn C f n = mn D g n
  | 0, _, _ => rfl
  | n + 1, h1, h2 => by
    rw [mn_s, mn_s, mn_congr (fun q h => h1 q (by omega)) (fun q h => h2 q (by omega)), ← h1 n (by omega)]
    by_cases hc : C n = true
    · rw [if_pos hc, if_pos hc, h2 n (by omega) hc]
    · rw [if_neg hc, if_neg hc]
def Sb (p s : Nat) : Bool := (p &&& s) == p
theorem Sb_eq {p s : Nat} : Sb p s = true ↔ p &&& s = p := by unfold Sb; exact beq_iff_eq
theorem Sb_iff {p s : Nat} : Sb p s = true ↔ ∀ k, p.testBit k = true → s.testBit k = true := by
  rw [Sb_eq]
  constructor
  · intro h k hk
    have e := congrArg (fun z => z.testBit k) h
    simp only [Nat.testBit_and, hk, Bool.true_and] at e
    exact e
  · intro h
    apply Nat.eq_of_testBit_eq
    intro k
    rw [Nat.testBit_and]
    cases hp : p.testBit k with
    | false => rfl
    | true => rw [h k hp]; rfl
theorem Sb_le {p s : Nat} (h : Sb p s = true) : p ≤ s := by
  rw [Sb_eq] at h
  rw [← h]; exact Nat.and_le_right
theorem Sb_refl (s : Nat) : Sb s s = true := Sb_eq.mpr (Nat.and_self s)
theorem Sb_0 (s : Nat) : Sb 0 s = true := Sb_iff.mpr (fun k h => by rw [Nat.zero_testBit] at h; cases h)
theorem Sb_trans {p q s : Nat} (h : Sb p q = true) (k : Sb q s = true) : Sb p s = true := Sb_iff.mpr (fun i hi => Sb_iff.mp k i (Sb_iff.mp h i hi))
theorem Sb_and (a s : Nat) : Sb (a &&& s) s = true := Sb_iff.mpr (fun k h => by rw [Nat.testBit_and, Bool.and_eq_true] at h; exact h.2)
/-- going down through the subsets: the next one is the greatest that is less -/
theorem sub_next : ∀ part q rest : Nat, Sb part rest = true → Sb q rest = true → q < part → q ≤ ((part - 1) &&& rest) := by
  intro part
  induction part using Nat.strongRecOn with
  | ind part ih =>
    intro q rest h1 h2 h3
    have a1 := Sb_eq.mp h1
    have a2 := Sb_eq.mp h2
    have d1 : part / 2 &&& rest / 2 = part / 2 := by rw [← Nat.and_div_two, a1]
    have d2 : q / 2 &&& rest / 2 = q / 2 := by rw [← Nat.and_div_two, a2]
    have dx : ((part - 1) &&& rest) / 2 = (part - 1) / 2 &&& rest / 2 := Nat.and_div_two
    have mx : ((part - 1) &&& rest) % 2 = 1 ↔ (part - 1) % 2 = 1 ∧ rest % 2 = 1 := Nat.and_mod_two_eq_one
    have mq : (q &&& rest) % 2 = 1 ↔ q % 2 = 1 ∧ rest % 2 = 1 := Nat.and_mod_two_eq_one
    rw [a2] at mq
    by_cases hp : part % 2 = 1
    · rw [show (part - 1) / 2 = part / 2 by omega, d1] at dx
      omega
    · have h5 := ih (part / 2) (by omega) (q / 2) (rest / 2) (Sb_eq.mpr d1) (Sb_eq.mpr d2) (by omega)
      rw [show part / 2 - 1 = (part - 1) / 2 by omega, ← dx] at h5
      by_cases hq : q % 2 = 1
      · have h6 := mx.mpr ⟨by omega, (mq.mp hq).2⟩
        omega
      · omega
theorem sub_dec {part rest : Nat} (h : 0 < part) : ((part - 1) &&& rest) < part := Nat.lt_of_le_of_lt Nat.and_le_left (by omega)
/-- the lowest member -/
def lw (s : Nat) : Nat := 2 ^ fstb s
theorem lw_tab : ∀ s : Fin 64, (s : Nat) ≠ 0 → pm_and ((s : Nat) : Int) (-((s : Nat) : Int)) = ((lw s : Nat) : Int) ∧ pm_xor ((s : Nat) : Int) ((lw s : Nat) : Int) = (((s : Nat) - lw s : Nat) : Int) ∧ 1 ≤ lw s ∧ lw s ≤ (s : Nat) ∧ pop (lw s) = 1 ∧ fstb s < 6 ∧ (s : Nat).testBit (fstb s) = true ∧ pop (lw s - 1) = fstb s ∧ fstb (lw s) = fstb s := by decide +kernel
theorem sub_tab : ∀ s : Fin 64, ∀ p : Fin 64, (s : Nat) ≠ 0 → Sb (p : Nat) ((s : Nat) - lw s) = true → pm_or ((lw s : Nat) : Int) ((p : Nat) : Int) = ((lw s + (p : Nat) : Nat) : Int) ∧ pm_xor (((s : Nat) - lw s : Nat) : Int) ((p : Nat) : Int) = (((s : Nat) - lw s - (p : Nat) : Nat) : Int) ∧ Sb (lw s + (p : Nat)) (s : Nat) = true ∧ Sb ((s : Nat) - lw s - (p : Nat)) ((s : Nat) - lw s) = true ∧ (lw s + (p : Nat)).testBit (fstb s) = true := by decide +kernel
theorem has_tab : ∀ s : Fin 64, ∀ p : Fin 64, (s : Nat) ≠ 0 → Sb (p : Nat) (s : Nat) = true → if (p : Nat).testBit (fstb s) then lw s ≤ (p : Nat) ∧ Sb ((p : Nat) - lw s) ((s : Nat) - lw s) = true else (s : Nat) - (p : Nat) ≠ 0 ∧ lw ((s : Nat) - (p : Nat)) = lw s := by decide +kernel
theorem dif_tab : ∀ s : Fin 64, ∀ p : Fin 64, Sb (p : Nat) (s : Nat) = true → ∀ k : Fin 6, ((s : Nat) - (p : Nat)).testBit (k : Nat) = ((s : Nat).testBit (k : Nat) && !(p : Nat).testBit (k : Nat)) := by decide +kernel
theorem tb_6 {s k : Nat} (hs : s < 64) (h : s.testBit k = true) : k < 6 := by
  refine Nat.lt_of_not_le (fun q => ?_)
  rw [Nat.testBit_lt_two_pow (Nat.lt_of_lt_of_le hs (Nat.pow_le_pow_right (n := 2) (by omega) q : 2 ^ 6 ≤ 2 ^ k))] at h
  cases h
theorem dif_bit {s p k : Nat} (hs : s < 64) (h : Sb p s = true) : (s - p).testBit k = true ↔ (s.testBit k = true ∧ ¬ p.testBit k = true) := by
  have hp := Sb_le h
  by_cases hk : k < 6
  · rw [dif_tab ⟨s, hs⟩ ⟨p, by omega⟩ h ⟨k, hk⟩]
    simp
  · constructor
    · intro q; exact absurd (tb_6 (by omega) q) hk
    · intro q; exact absurd (tb_6 hs q.1) hk
theorem dif_sb {s p : Nat} (hs : s < 64) (h : Sb p s = true) : Sb (s - p) s = true := Sb_iff.mpr (fun _ q => ((dif_bit hs h).mp q).1)
/-! ===== the fewest parts: the lowest member's part may be taken first ===== -/
def gF (tg : Nat → Bool) : Nat → Nat → Nat
  | 0, _ => 0
  | k + 1, s => if s = 0 then 0 else mn (fun p => p != 0 && (Sb p s && tg p)) (fun p => gF tg k (s - p) + 1) (s + 1)
theorem gF_s (tg : Nat → Bool) (k s : Nat) : gF tg (k + 1) s = if s = 0 then 0 else mn (fun p => p != 0 && (Sb p s && tg p)) (fun p => gF tg k (s - p) + 1) (s + 1) := rfl
theorem gF_0 (tg : Nat → Bool) : ∀ k, gF tg k 0 = 0
  | 0 => rfl
  | k + 1 => by rw [gF_s, if_pos rfl]
theorem gF_eq (tg : Nat → Bool) : ∀ k j s, s ≤ k → s ≤ j → gF tg k s = gF tg j s
  | 0, j, s, h1, h2 => by rw [show s = 0 by omega, gF_0, gF_0]
  | k + 1, 0, s, h1, h2 => by rw [show s = 0 by omega, gF_0, gF_0]
  | k + 1, j + 1, s, h1, h2 => by
    rw [gF_s, gF_s]
    by_cases hs : s = 0
    · rw [if_pos hs, if_pos hs]
    · rw [if_neg hs, if_neg hs]
      refine mn_congr (fun _ _ => rfl) (fun q hq hc => ?_)
      have : q ≠ 0 := by
        intro e
        rw [e] at hc
        simp at hc
      show gF tg k (s - q) + 1 = gF tg j (s - q) + 1
      rw [gF_eq tg k j (s - q) (by omega) (by omega)]
def GG (tg : Nat → Bool) (s : Nat) : Nat := gF tg 64 s
theorem GG_0 (tg : Nat → Bool) : GG tg 0 = 0 := gF_0 tg 64
def gC (tg : Nat → Bool) (s p : Nat) : Bool := p != 0 && (Sb p s && tg p)
theorem gC_iff {tg : Nat → Bool} {s p : Nat} : gC tg s p = true ↔ (p ≠ 0 ∧ Sb p s = true ∧ tg p = true) := by unfold gC; simp
theorem GG_s (tg : Nat → Bool) {s : Nat} (hs : s < 64) (h0 : s ≠ 0) : GG tg s = mn (gC tg s) (fun p => GG tg (s - p) + 1) (s + 1) := by
  unfold GG
  rw [show (64 : Nat) = 63 + 1 from rfl, gF_s, if_neg h0]
  refine mn_congr (fun _ _ => rfl) (fun q hq hc => ?_)
  show gF tg 63 (s - q) + 1 = gF tg (63 + 1) (s - q) + 1
  rw [gF_eq tg 63 (63 + 1) (s - q) (by omega) (by omega)]
theorem GG_le {tg : Nat → Bool} {s p : Nat} (hs : s < 64) (h0 : p ≠ 0) (h1 : Sb p s = true) (h2 : tg p = true) : GG tg s ≤ GG tg (s - p) + 1 := by
  have hp := Sb_le h1
  rw [GG_s tg hs (by omega)]
  exact mn_le _ _ _ p (by omega) (gC_iff.mpr ⟨h0, h1, h2⟩)
theorem GG_lt {tg : Nat → Bool} (h1 : ∀ k, k < 6 → tg (2 ^ k) = true) : ∀ s, s < 64 → GG tg s ≤ s := by
  intro s
  induction s using Nat.strongRecOn with
  | ind s ih =>
    intro hs
    by_cases h0 : s = 0
    · rw [h0, GG_0]; omega
    · obtain ⟨-, -, q1, q2, -, q3, -⟩ := lw_tab ⟨s, hs⟩ h0
      have q4 : Sb (lw s) s = true := by have := (sub_tab ⟨s, hs⟩ ⟨0, by omega⟩ h0 (Sb_0 _)).2.2.1; exact this
      have q5 := GG_le hs (by show lw s ≠ 0; have : 1 ≤ lw s := q1; omega) q4 (h1 _ q3)
      have q1' : 1 ≤ lw s := q1
      have := ih (s - lw s) (by omega) (by omega)
      omega
theorem GG_low {tg : Nat → Bool} (h1 : ∀ k, k < 6 → tg (2 ^ k) = true) : ∀ s, s < 64 → s ≠ 0 → ∃ q, Sb q (s - lw s) = true ∧ tg (lw s + q) = true ∧ GG tg s = 1 + GG tg (s - lw s - q) := by
  intro s
  induction s using Nat.strongRecOn with
  | ind s ih =>
    intro hs h0
    have e := GG_s tg hs h0
    have q1 : 1 ≤ lw s := (lw_tab ⟨s, hs⟩ h0).2.2.1
    rcases mn_ex (gC tg s) (fun p => GG tg (s - p) + 1) (s + 1) with h | ⟨p, k1, k2, k3⟩
    · have := GG_lt h1 s hs
      omega
    · obtain ⟨p0, ps, pt⟩ := gC_iff.mp k2
      have hp := Sb_le ps
      have ht := has_tab ⟨s, hs⟩ ⟨p, by omega⟩ h0 ps
      by_cases hb : p.testBit (fstb s) = true
      · rw [if_pos hb] at ht
        obtain ⟨a1, a2⟩ := ht
        have a1 : lw s ≤ p := a1
        refine ⟨p - lw s, a2, by rw [show lw s + (p - lw s) = p by omega]; exact pt, ?_⟩
        rw [e, k3, show s - lw s - (p - lw s) = s - p by omega]; omega
      · rw [if_neg hb] at ht
        obtain ⟨a1, a2⟩ := ht
        have a1 : s - p ≠ 0 := a1
        have a2 : lw (s - p) = lw s := a2
        obtain ⟨q, b1, b2, b3⟩ := ih (s - p) (by omega) (by omega) a1
        rw [a2] at b1 b2 b3
        have c1 : Sb q (s - lw s) = true := by
          refine Sb_iff.mpr (fun k hk => ?_)
          have l1 : Sb (lw s) (s - p) = true := by have := (sub_tab ⟨s - p, by omega⟩ ⟨0, by omega⟩ a1 (Sb_0 _)).2.2.1; rw [a2] at this; exact this
          have l2 : Sb (lw s) s = true := Sb_trans l1 (dif_sb hs ps)
          have := (dif_bit (by omega) l1).mp (Sb_iff.mp b1 k hk)
          exact (dif_bit hs l2).mpr ⟨((dif_bit hs ps).mp this.1).1, this.2⟩
        have hq := Sb_le c1
        obtain ⟨-, -, c2, -, -⟩ := sub_tab ⟨s, hs⟩ ⟨q, by omega⟩ h0 c1
        have c2 : Sb (lw s + q) s = true := c2
        have c3 : Sb p (s - (lw s + q)) = true := by
          refine Sb_iff.mpr (fun k hk => (dif_bit hs c2).mpr ⟨Sb_iff.mp ps k hk, fun hw => ?_⟩)
          have d1 : Sb (lw s + q) (s - p) = true := by have := (sub_tab ⟨s - p, by omega⟩ ⟨q, by omega⟩ a1 (by show Sb q (s - p - lw (s - p)) = true; rw [a2]; exact b1)).2.2.1; rw [a2] at this; exact this
          exact ((dif_bit hs ps).mp (Sb_iff.mp d1 k hw)).2 hk
        have c4 := GG_le (tg := tg) (s := s - (lw s + q)) (by omega) p0 c3 pt
        have c5 := GG_le hs (by omega) c2 b2
        rw [show s - (lw s + q) - p = s - p - lw s - q by omega] at c4
        refine ⟨q, c1, b2, ?_⟩
        rw [show s - (lw s + q) = s - lw s - q by omega] at c4 c5
        have : GG tg s = GG tg (s - p) + 1 := by rw [e, k3]
        omega
/-- as the class works it out -/
theorem GG_class {tg : Nat → Bool} (h1 : ∀ k, k < 6 → tg (2 ^ k) = true) {s : Nat} (hs : s < 64) (h0 : s ≠ 0) : GG tg s = if tg s then 1 else mn (fun q => Sb q (s - lw s) && tg (lw s + q)) (fun q => 1 + GG tg (s - lw s - q)) (s - lw s) := by
  obtain ⟨q, a1, a2, a3⟩ := GG_low h1 s hs h0
  have q1 : 1 ≤ lw s := (lw_tab ⟨s, hs⟩ h0).2.2.1
  have q2 : lw s ≤ s := (lw_tab ⟨s, hs⟩ h0).2.2.2.1
  by_cases ht : tg s = true
  · rw [if_pos ht]
    have := GG_le hs h0 (Sb_refl s) ht
    rw [Nat.sub_self, GG_0] at this
    omega
  · rw [if_neg ht]
    refine mn_uniq (Nat.le_trans (GG_lt h1 s hs) (by omega)) (fun p hp hc => ?_) (Or.inr ⟨q, ?_, ?_, a3⟩)
    · rw [Bool.and_eq_true] at hc
      obtain ⟨-, -, c2, -, -⟩ := sub_tab ⟨s, hs⟩ ⟨p, by omega⟩ h0 hc.1
      have c2 : Sb (lw s + p) s = true := c2
      have := GG_le hs (by omega) c2 hc.2
      rw [show s - (lw s + p) = s - lw s - p by omega] at this
      omega
    · have := Sb_le a1
      refine Nat.lt_of_le_of_ne this (fun e => ht ?_)
      rw [e, show lw s + (s - lw s) = s by omega] at a2
      exact a2
    · simp [a1, a2]
