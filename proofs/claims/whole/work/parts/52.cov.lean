/-! ===== covers: so many full areas ===== -/
def FL (T : Tab) (v : Nat) : List Nat := fL T v (2 ^ tR T - 1)
theorem fL_mem (T : Tab) (v : Nat) : ∀ n x, x ∈ fL T v n ↔ (1 ≤ x ∧ x ≤ n ∧ isFull T v x = true)
  | 0, x => by
    constructor
    · intro h; cases h
    · rintro ⟨a, b, _⟩; omega
  | n + 1, x => by
    have ih := fL_mem T v n x
    by_cases h : isFull T v (n + 1) = true
    · rw [fL_pos h, List.mem_append, List.mem_singleton, ih]
      constructor
      · rintro (⟨a, b, c⟩ | e)
        · exact ⟨a, by omega, c⟩
        · subst e; exact ⟨by omega, Nat.le_refl _, h⟩
      · rintro ⟨a, b, c⟩
        by_cases e : x = n + 1
        · exact Or.inr e
        · exact Or.inl ⟨a, by omega, c⟩
    · rw [fL_neg h, ih]
      constructor
      · rintro ⟨a, b, c⟩; exact ⟨a, by omega, c⟩
      · rintro ⟨a, b, c⟩
        refine ⟨a, ?_, c⟩
        have : x ≠ n + 1 := fun e => h (by rw [← e]; exact c)
        omega
def inA (T : Tab) (v x i : Nat) : Bool := x.testBit (i / 6) && (oC T x v).testBit (i % 6)
/-- the cells of a value -/
def Cv (T : Tab) (v i : Nat) : Prop := i / 6 < tR T ∧ i % 6 < tC T ∧ tX T i = v
def CV (T : Tab) (v n : Nat) (P : Nat → Prop) : Prop := ∃ l : List Nat, l.length ≤ n ∧ (∀ x, x ∈ l → x ∈ FL T v) ∧ ∀ i, P i → ∃ x, x ∈ l ∧ inA T v x i = true
theorem CV_none {T : Tab} {v n : Nat} {P : Nat → Prop} (h : ∀ i, ¬ P i) : CV T v n P := ⟨[], Nat.zero_le _, fun x hx => (by cases hx), fun i hi => absurd hi (h i)⟩
theorem CV_0 {T : Tab} {v : Nat} {P : Nat → Prop} (h : CV T v 0 P) : ∀ i, ¬ P i := fun i hi => by
  obtain ⟨l, h1, _, h3⟩ := h
  obtain ⟨x, hx, _⟩ := h3 i hi
  rw [List.length_eq_zero_iff.mp (show l.length = 0 by omega)] at hx
  cases hx
theorem CV_mono {T : Tab} {v n m : Nat} {P : Nat → Prop} (h : CV T v n P) (hn : n ≤ m) : CV T v m P := by
  obtain ⟨l, h1, h2, h3⟩ := h
  exact ⟨l, by omega, h2, h3⟩
theorem CV_sub {T : Tab} {v n : Nat} {P P' : Nat → Prop} (h : CV T v n P) (hp : ∀ i, P' i → P i) : CV T v n P' := by
  obtain ⟨l, h1, h2, h3⟩ := h
  exact ⟨l, h1, h2, fun i hi => h3 i (hp i hi)⟩
theorem CV_s {T : Tab} {v n : Nat} {P : Nat → Prop} {i : Nat} (hi : P i) : CV T v (n + 1) P ↔ ∃ x, x ∈ FL T v ∧ inA T v x i = true ∧ CV T v n (fun j => P j ∧ ¬ inA T v x j = true) := by
  constructor
  · rintro ⟨l, h1, h2, h3⟩
    obtain ⟨x, hx, hxi⟩ := h3 i hi
    refine ⟨x, h2 x hx, hxi, l.erase x, ?_, fun y hy => h2 y (List.mem_of_mem_erase hy), fun j hj => ?_⟩
    · rw [List.length_erase_of_mem hx]; omega
    · obtain ⟨y, hy, hyj⟩ := h3 j hj.1
      exact ⟨y, (List.mem_erase_of_ne (fun e => hj.2 (by rw [← e]; exact hyj))).mpr hy, hyj⟩
  · rintro ⟨x, hx, hxi, l, h1, h2, h3⟩
    refine ⟨x :: l, by rw [List.length_cons]; omega, fun y hy => ?_, fun j hj => ?_⟩
    · rcases List.mem_cons.mp hy with e | e
      · rw [e]; exact hx
      · exact h2 y e
    · by_cases q : inA T v x j = true
      · exact ⟨x, List.mem_cons_self .., q⟩
      · obtain ⟨y, hy, hyj⟩ := h3 j ⟨hj, q⟩
        exact ⟨y, List.mem_cons_of_mem x hy, hyj⟩
def IsCov (T : Tab) (v n : Nat) : Prop := CV T v n (Cv T v) ∧ ∀ m, m < n → ¬ CV T v m (Cv T v)
theorem IsCov_uniq {T : Tab} {v n m : Nat} (h : IsCov T v n) (k : IsCov T v m) : n = m := by
  rcases Nat.lt_trichotomy n m with q | q | q
  · exact absurd h.1 (k.2 n q)
  · exact q
  · exact absurd k.1 (h.2 m q)
noncomputable def covN (T : Tab) (v : Nat) : Nat := Classical.epsilon (IsCov T v)
theorem covN_eq {T : Tab} {v n : Nat} (h : IsCov T v n) : n = covN T v := IsCov_uniq h (Classical.epsilon_spec ⟨n, h⟩)
/-! ===== no more than rows, columns that have the value ===== -/
theorem full_closed {T : Tab} (hT : TabOK T) {v x r c : Nat} (hx : x < 2 ^ tR T) (hr : r < tR T) (hc : c < tC T) (h1 : x.testBit r = true) (h2 : (oC T x v).testBit c = true) (h3 : tX T (6 * r + c) = v) (h4 : oR T (oC T x v) v (tR T) = x) : x ∈ FL T v := by
  have hC := hT.2.1
  refine (fL_mem T v _ x).mpr ⟨?_, by omega, ?_⟩
  · refine Nat.one_le_iff_ne_zero.mpr (fun e => ?_)
    rw [e, Nat.zero_testBit] at h1; cases h1
  · unfold isFull
    rw [Bool.and_eq_true, decide_eq_true_iff, decide_eq_true_iff]
    refine ⟨Nat.pos_of_ne_zero (fun e => ?_), h4⟩
    have hw := (wL_0 hT x (oC T x v) v).mpr e
    have hb := wL_bit hT x (oC T x v) v (r := r) (c := c) (by omega) (tR T)
    rw [hw, Nat.zero_testBit, Nat.testBit_and, oRow_bit, h1, h2] at hb
    simp [hr, hc, h3] at hb
theorem row_full {T : Tab} (hT : TabOK T) {v r c : Nat} (hr : r < tR T) (hc : c < tC T) (hx : tX T (6 * r + c) = v) : ∃ x, x ∈ FL T v ∧ ∀ c', c' < tC T → tX T (6 * r + c') = v → inA T v x (6 * r + c') = true := by
  have hC := hT.2.1
  obtain ⟨x, ex⟩ : ∃ x, x = oR T (oC T (2 ^ r) v) v (tR T) := ⟨_, rfl⟩
  have hin : ∀ c', c' < tC T → tX T (6 * r + c') = v → (oC T (2 ^ r) v).testBit c' = true := fun c' h1 h2 => by
    rw [oC_bit hT]
    refine ⟨h1, fun r' _ hb => ?_⟩
    rw [Nat.testBit_two_pow, decide_eq_true_iff] at hb
    subst hb; exact Or.inl h2
  have hxr : x.testBit r = true := by
    rw [ex, oR_bit]
    simp only [hr, decide_true, Bool.true_and, decide_eq_true_iff]
    rw [uRow_and hT]
    intro c' h1 h2
    exact ((oC_bit hT _ v).mp h2).2 r hr (by rw [Nat.testBit_two_pow]; simp)
  have eC : oC T x v = oC T (2 ^ r) v := by
    apply Nat.eq_of_testBit_eq
    intro c'
    rw [Bool.eq_iff_iff, oC_bit hT, oC_bit hT]
    constructor
    · rintro ⟨h1, h2⟩
      refine ⟨h1, fun r' h3 hb => ?_⟩
      rw [Nat.testBit_two_pow, decide_eq_true_iff] at hb
      subst hb; exact h2 r h3 hxr
    · rintro ⟨h1, h2⟩
      refine ⟨h1, fun r' h3 hb => ?_⟩
      rw [ex, oR_bit, Bool.and_eq_true, decide_eq_true_iff, decide_eq_true_iff, uRow_and hT] at hb
      exact hb.2 c' h1 ((oC_bit hT _ v).mpr ⟨h1, h2⟩)
  refine ⟨x, full_closed hT (r := r) (c := c) (by rw [ex]; exact oR_lt T _ v _) hr hc hxr (by rw [eC]; exact hin c hc hx) hx (by rw [eC]; exact ex.symm), fun c' h1 h2 => ?_⟩
  unfold inA
  rw [show (6 * r + c') / 6 = r by omega, show (6 * r + c') % 6 = c' by omega, hxr, eC, hin c' h1 h2]; rfl
theorem col_full {T : Tab} (hT : TabOK T) {v r c : Nat} (hr : r < tR T) (hc : c < tC T) (hx : tX T (6 * r + c) = v) : ∃ x, x ∈ FL T v ∧ ∀ r', r' < tR T → tX T (6 * r' + c) = v → inA T v x (6 * r' + c) = true := by
  have hC := hT.2.1
  obtain ⟨x, ex⟩ : ∃ x, x = oR T (2 ^ c) v (tR T) := ⟨_, rfl⟩
  have hin : ∀ r', r' < tR T → tX T (6 * r' + c) = v → x.testBit r' = true := fun r' h1 h2 => by
    rw [ex, oR_bit]
    simp only [h1, decide_true, Bool.true_and, decide_eq_true_iff]
    rw [uRow_and hT]
    intro c' _ hb
    rw [Nat.testBit_two_pow, decide_eq_true_iff] at hb
    subst hb; exact Or.inl h2
  have hxc : (oC T x v).testBit c = true := by
    rw [oC_bit hT]
    refine ⟨hc, fun r' h1 hb => ?_⟩
    rw [ex, oR_bit, Bool.and_eq_true, decide_eq_true_iff, decide_eq_true_iff, uRow_and hT] at hb
    exact hb.2 c hc (by rw [Nat.testBit_two_pow]; simp)
  have eR : oR T (oC T x v) v (tR T) = x := by
    apply Nat.eq_of_testBit_eq
    intro r'
    rw [Bool.eq_iff_iff, oR_bit, Bool.and_eq_true, decide_eq_true_iff, decide_eq_true_iff, uRow_and hT]
    constructor
    · rintro ⟨h1, h2⟩
      rw [ex, oR_bit]
      simp only [h1, decide_true, Bool.true_and, decide_eq_true_iff]
      rw [uRow_and hT]
      intro c' h3 hb
      rw [Nat.testBit_two_pow, decide_eq_true_iff] at hb
      subst hb; exact h2 c h3 hxc
    · intro hb
      have hb' := hb
      rw [ex, oR_bit, Bool.and_eq_true, decide_eq_true_iff] at hb
      exact ⟨hb.1, fun c' h3 h4 => ((oC_bit hT _ v).mp h4).2 r' hb.1 hb'⟩
  refine ⟨x, full_closed hT (r := r) (c := c) (by rw [ex]; exact oR_lt T _ v _) hr hc (hin r hr hx) hxc hx eR, fun r' h1 h2 => ?_⟩
  unfold inA
  rw [show (6 * r' + c) / 6 = r' by omega, show (6 * r' + c) % 6 = c by omega, hin r' h1 h2, hxc]; rfl
def wo (T : Tab) (v : Nat) : Nat → Nat
  | 0 => 0
  | r + 1 => wo T v r + if oRow T r v (tC T) = 0 then 0 else 1
theorem wo_le (T : Tab) (v : Nat) : ∀ r, wo T v r ≤ r
  | 0 => Nat.le_refl _
  | r + 1 => by
    have := wo_le T v r
    show wo T v r + _ ≤ _
    split <;> omega
theorem oRow_0 (T : Tab) (v r : Nat) : oRow T r v (tC T) = 0 ↔ ∀ c, c < tC T → ¬ tX T (6 * r + c) = v := by
  constructor
  · intro h c hc e
    have := oRow_bit T r v (tC T) c
    rw [h, Nat.zero_testBit] at this
    simp [hc, e] at this
  · intro h
    apply Nat.eq_of_testBit_eq
    intro c
    rw [oRow_bit, Nat.zero_testBit]
    by_cases hc : c < tC T
    · simp [hc, h c hc]
    · simp [hc]
theorem CV_rows {T : Tab} (hT : TabOK T) (v : Nat) : ∀ r, r ≤ tR T → CV T v (wo T v r) (fun i => i / 6 < r ∧ i % 6 < tC T ∧ tX T i = v)
  | 0, _ => CV_none (fun i h => by omega)
  | r + 1, hr => by
    obtain ⟨l, h1, h2, h3⟩ := CV_rows hT v r (by omega)
    by_cases h : oRow T r v (tC T) = 0
    · refine ⟨l, ?_, h2, fun i hi => ?_⟩
      · show _ ≤ wo T v r + _; omega
      · by_cases e : i / 6 = r
        · refine absurd hi.2.2 ?_
          have := (oRow_0 T v r).mp h (i % 6) hi.2.1
          rw [show 6 * r + i % 6 = i by omega] at this
          exact this
        · exact h3 i ⟨by omega, hi.2⟩
    · have : ∃ c, c < tC T ∧ tX T (6 * r + c) = v := Classical.byContradiction (fun q => h ((oRow_0 T v r).mpr (fun c hc e => q ⟨c, hc, e⟩)))
      obtain ⟨c, hc, hx⟩ := this
      obtain ⟨x, hx1, hx2⟩ := row_full hT (r := r) (by omega) hc hx
      refine ⟨x :: l, ?_, fun y hy => ?_, fun i hi => ?_⟩
      · show _ ≤ wo T v r + _; rw [if_neg h, List.length_cons]; omega
      · rcases List.mem_cons.mp hy with e | e
        · rw [e]; exact hx1
        · exact h2 y e
      · by_cases e : i / 6 = r
        · refine ⟨x, List.mem_cons_self .., ?_⟩
          have := hx2 (i % 6) hi.2.1
          rw [show 6 * r + i % 6 = i by omega] at this
          exact this hi.2.2
        · obtain ⟨y, hy, q⟩ := h3 i ⟨by omega, hi.2⟩
          exact ⟨y, List.mem_cons_of_mem x hy, q⟩
theorem ow_all {T : Tab} (v c : Nat) : (ow T (2 ^ tR T - 1) v (tR T)).testBit c = true ↔ c < tC T ∧ ∃ r, r < tR T ∧ tX T (6 * r + c) = v := by
  rw [ow_bit]
  constructor
  · rintro ⟨r, h1, _, h3⟩
    rw [oRow_bit, Bool.and_eq_true, decide_eq_true_iff, beq_iff_eq] at h3
    exact ⟨h3.1, r, h1, h3.2⟩
  · rintro ⟨h1, r, h2, h3⟩
    refine ⟨r, h2, by rw [ones_bit]; simp [h2], ?_⟩
    rw [oRow_bit]; simp [h1, h3]
theorem CV_cols {T : Tab} (hT : TabOK T) (v : Nat) : ∀ c, c ≤ tC T → CV T v (sm (bt (ow T (2 ^ tR T - 1) v (tR T))) c) (fun i => i / 6 < tR T ∧ i % 6 < c ∧ tX T i = v)
  | 0, _ => CV_none (fun i h => by omega)
  | c + 1, hc => by
    obtain ⟨l, h1, h2, h3⟩ := CV_cols hT v c (by omega)
    by_cases h : (ow T (2 ^ tR T - 1) v (tR T)).testBit c = true
    · obtain ⟨_, r, hr, hx⟩ := (ow_all v c).mp h
      obtain ⟨x, hx1, hx2⟩ := col_full hT hr (by omega) hx
      refine ⟨x :: l, ?_, fun y hy => ?_, fun i hi => ?_⟩
      · show _ ≤ sm (bt (ow T (2 ^ tR T - 1) v (tR T))) c + bt _ c
        rw [bt_on.mpr h, List.length_cons]; omega
      · rcases List.mem_cons.mp hy with e | e
        · rw [e]; exact hx1
        · exact h2 y e
      · by_cases e : i % 6 = c
        · refine ⟨x, List.mem_cons_self .., ?_⟩
          have := hx2 (i / 6) hi.1
          rw [show 6 * (i / 6) + c = i by omega] at this
          exact this hi.2.2
        · obtain ⟨y, hy, q⟩ := h3 i ⟨hi.1, by omega, hi.2.2⟩
          exact ⟨y, List.mem_cons_of_mem x hy, q⟩
    · refine ⟨l, ?_, h2, fun i hi => ?_⟩
      · show _ ≤ sm (bt (ow T (2 ^ tR T - 1) v (tR T))) c + bt _ c; omega
      · by_cases e : i % 6 = c
        · refine absurd ((ow_all v c).mpr ⟨by omega, i / 6, hi.1, ?_⟩) h
          rw [show 6 * (i / 6) + c = i by omega]; exact hi.2.2
        · exact h3 i ⟨hi.1, by omega, hi.2.2⟩
def enough (T : Tab) (v : Nat) : Nat := min (wo T v (tR T)) (pop (ow T (2 ^ tR T - 1) v (tR T)))
theorem ow_lt {T : Tab} (hT : TabOK T) (v : Nat) : ow T (2 ^ tR T - 1) v (tR T) < 2 ^ tC T := by
  refine Nat.lt_of_not_le (fun q => ?_)
  have h6 := ow_64 hT (2 ^ tR T - 1) v (tR T)
  obtain ⟨k, hk, hb⟩ := Nat.exists_ge_and_testBit_of_ge_two_pow q
  have := ((ow_all v k).mp hb).1
  omega
theorem CV_enough {T : Tab} (hT : TabOK T) (v : Nat) : CV T v (enough T v) (Cv T v) := by
  have hC := hT.2.1
  have h1 := CV_rows hT v (tR T) (Nat.le_refl _)
  have h2 := CV_cols hT v (tC T) (Nat.le_refl _)
  rw [← pop_cut (by omega) (ow_lt hT v)] at h2
  unfold enough
  by_cases h : wo T v (tR T) ≤ pop (ow T (2 ^ tR T - 1) v (tR T))
  · rw [Nat.min_eq_left h]; exact h1
  · rw [Nat.min_eq_right (by omega)]; exact h2
theorem enough_6 {T : Tab} (hT : TabOK T) (v : Nat) : enough T v ≤ 6 := by
  have := wo_le T v (tR T)
  have := hT.1
  have := Nat.min_le_left (wo T v (tR T)) (pop (ow T (2 ^ tR T - 1) v (tR T)))
  unfold enough; omega
/-! ===== no fewer than a set that fools ===== -/
theorem pw_one {R : Nat → Nat → Prop} {p : Nat → Bool} : ∀ {q : List Nat}, q.Pairwise R → (∀ a, a ∈ q → ∀ b, b ∈ q → p a = true → p b = true → ¬ R a b) → q.length ≤ (q.filter (fun a => !p a)).length + 1
  | [], _, _ => Nat.zero_le _
  | a :: q, h, k => by
    rw [List.pairwise_cons] at h
    cases hp : p a with
    | false =>
      have := pw_one (p := p) h.2 (fun x hx y hy => k x (List.mem_cons_of_mem a hx) y (List.mem_cons_of_mem a hy))
      rw [List.filter_cons, hp]
      show _ ≤ (a :: List.filter _ q).length + 1
      rw [List.length_cons, List.length_cons]; omega
    | true =>
      have e : q.filter (fun a => !p a) = q := List.filter_eq_self.mpr (fun b hb => by
        cases hq : p b with
        | false => rfl
        | true => exact absurd (h.1 b hb) (k a (List.mem_cons_self ..) b (List.mem_cons_of_mem a hb) hp hq))
      rw [List.filter_cons, hp]
      show _ ≤ (List.filter _ q).length + 1
      rw [e, List.length_cons]; omega
theorem fool_area {T : Tab} (hT : TabOK T) {v x a b : Nat} (ha : Cv T v a) (hb : Cv T v b) (h1 : inA T v x a = true) (h2 : inA T v x b = true) : ¬ fo T v a b = true := by
  intro h
  unfold inA at h1 h2
  rw [Bool.and_eq_true] at h1 h2
  have k1 := ((oC_bit hT _ v).mp h2.2).2 (a / 6) ha.1 h1.1
  have k2 := ((oC_bit hT _ v).mp h1.2).2 (b / 6) hb.1 h2.1
  unfold fo ot at h
  simp at h
  omega
theorem fool_cov {T : Tab} (hT : TabOK T) {v : Nat} : ∀ (l q : List Nat), q.Pairwise (fun a b => fo T v a b = true) → (∀ a, a ∈ q → Cv T v a ∧ ∃ x, x ∈ l ∧ inA T v x a = true) → q.length ≤ l.length
  | [], q, _, h => by
    cases q with
    | nil => exact Nat.le_refl _
    | cons a q =>
      obtain ⟨_, x, hx, _⟩ := h a (List.mem_cons_self ..)
      cases hx
  | x :: l, q, hp, h => by
    have h1 := pw_one (p := fun a => inA T v x a) hp (fun a ha b hb h1 h2 => fool_area hT (h a ha).1 (h b hb).1 h1 h2)
    have h2 := fool_cov hT l (q.filter (fun a => !inA T v x a)) (hp.filter _) (fun a ha => by
      rw [List.mem_filter] at ha
      obtain ⟨c, y, hy, hya⟩ := h a ha.1
      refine ⟨c, y, ?_, hya⟩
      rcases List.mem_cons.mp hy with e | e
      · rw [← e, hya] at ha; cases ha.2
      · exact e)
    rw [List.length_cons]; omega
theorem fool_le {T : Tab} (hT : TabOK T) {v n : Nat} {q : List Nat} (hq : IsK (fo T v) (fc T v) q) (h : CV T v n (Cv T v)) : q.length ≤ n := by
  obtain ⟨l, h1, h2, h3⟩ := h
  refine Nat.le_trans (fool_cov hT l q hq.2 (fun a ha => ?_)) h1
  have := (fa_mem hT v a (tR T)).mp (hq.1.subset ha)
  exact ⟨this, h3 a this⟩
/-! ===== masks of cells ===== -/
def wm (T : Tab) (v x : Nat) : Nat := wL T x (oC T x v) v (tR T)
theorem cell_bit {T : Tab} (hT : TabOK T) (rs cs v i : Nat) : (wL T rs cs v (tR T)).testBit i = true ↔ (Cv T v i ∧ rs.testBit (i / 6) = true ∧ cs.testBit (i % 6) = true) := by
  have h := wL_bit hT rs cs v (r := i / 6) (c := i % 6) (Nat.mod_lt _ (by omega)) (tR T)
  rw [show 6 * (i / 6) + i % 6 = i by omega] at h
  rw [h, Nat.testBit_and, oRow_bit, show 6 * (i / 6) + i % 6 = i by omega]
  unfold Cv
  simp only [Bool.and_eq_true, decide_eq_true_iff, beq_iff_eq]
  constructor
  · rintro ⟨a, b, ⟨c, d⟩, e⟩; exact ⟨⟨a, c, d⟩, b, e⟩
  · rintro ⟨⟨a, c, d⟩, b, e⟩; exact ⟨a, b, ⟨c, d⟩, e⟩
theorem wm_bit {T : Tab} (hT : TabOK T) (v x i : Nat) : (wm T v x).testBit i = true ↔ (Cv T v i ∧ inA T v x i = true) := by
  unfold wm inA
  rw [cell_bit hT, Bool.and_eq_true]
theorem all_bit {T : Tab} (hT : TabOK T) (v i : Nat) : (wL T (2 ^ tR T - 1) (2 ^ tC T - 1) v (tR T)).testBit i = true ↔ Cv T v i := by
  rw [cell_bit hT, ones_bit, ones_bit, decide_eq_true_iff, decide_eq_true_iff]
  constructor
  · intro h; exact h.1
  · intro h; exact ⟨h, h.1, h.2.1⟩
theorem sm_lsum (g : Nat → Nat → Nat) (n : Nat) : ∀ l : List Nat, sm (fun i => (l.map (fun x => g x i)).sum) n = (l.map (fun x => sm (g x) n)).sum
  | [] => sm_zero n
  | x :: l => by
    rw [List.map_cons, List.sum_cons, ← sm_lsum g n l, ← sm_add]
    refine sm_congr (fun i _ => ?_)
    rw [List.map_cons, List.sum_cons]
theorem le_lsum {g : Nat → Nat} : ∀ {l : List Nat} {x : Nat}, x ∈ l → g x ≤ (l.map g).sum
  | y :: l, x, h => by
    rw [List.map_cons, List.sum_cons]
    rcases List.mem_cons.mp h with e | e
    · rw [e]; omega
    · have := le_lsum (g := g) e; omega
theorem lsum_le {g : Nat → Nat} {z : Nat} : ∀ {l : List Nat}, (∀ x, x ∈ l → g x ≤ z) → (l.map g).sum ≤ z * l.length
  | [], _ => Nat.zero_le _
  | y :: l, h => by
    have h1 := lsum_le (g := g) (z := z) (l := l) (fun x hx => h x (List.mem_cons_of_mem y hx))
    have h2 := h y (List.mem_cons_self ..)
    rw [List.map_cons, List.sum_cons, List.length_cons, Nat.mul_add, Nat.mul_one]; omega
theorem cov_count {T : Tab} (hT : TabOK T) {v n m z : Nat} (hm : ∀ i, m.testBit i = true → Cv T v i) (hz : ∀ x, x ∈ FL T v → popL (wm T v x &&& m) ≤ z) (h : CV T v n (fun i => m.testBit i = true)) : popL m ≤ z * n := by
  obtain ⟨l, h1, h2, h3⟩ := h
  have h4 : popL m ≤ sm (fun i => (l.map (fun x => bt (wm T v x &&& m) i)).sum) 36 := by
    unfold popL
    refine sm_le (fun i _ => ?_)
    cases hb : m.testBit i with
    | false => rw [bt_off.mpr hb]; exact Nat.zero_le _
    | true =>
      obtain ⟨x, hx, hxi⟩ := h3 i hb
      have h5 : (wm T v x &&& m).testBit i = true := by rw [Nat.testBit_and, hb, (wm_bit hT v x i).mpr ⟨hm i hb, hxi⟩]; rfl
      have h6 := le_lsum (g := fun x => bt (wm T v x &&& m) i) hx
      have h7 : bt (wm T v x &&& m) i = 1 := bt_on.mpr h5
      rw [bt_on.mpr hb]
      show 1 ≤ _
      omega
  rw [sm_lsum] at h4
  have h5 := lsum_le (g := fun x => popL (wm T v x &&& m)) (z := z) (l := l) (fun x hx => hz x (h2 x hx))
  have h6 : z * l.length ≤ z * n := Nat.mul_le_mul_left z h1
  have h7 : popL m ≤ (l.map (fun x => popL (wm T v x &&& m))).sum := h4
  omega
/-- a set without another one, of 64 bits -/
def lD (a b : Nat) : Nat := a ^^^ (a &&& b)
theorem lD_bit (a b i : Nat) : (lD a b).testBit i = (a.testBit i && !b.testBit i) := by
  unfold lD
  rw [Nat.testBit_xor, Nat.testBit_and]
  cases a.testBit i <;> cases b.testBit i <;> rfl
theorem lD_le (a b : Nat) : lD a b ≤ a := by
  have h : lD a b &&& a = lD a b := by
    apply Nat.eq_of_testBit_eq
    intro i
    rw [Nat.testBit_and, lD_bit]
    cases a.testBit i <;> cases b.testBit i <;> rfl
  rw [← h]; exact Nat.and_le_right
theorem pm_andNL {a b : Nat} (ha : a < 9223372036854775808) : pm_andL (a : Int) (pm_xorL (b : Int) (-1)) = ((lD a b : Nat) : Int) := by
  unfold pm_andL pm_xorL
  rw [Int64.ofInt_toInt, pm_ofNL, pm_ofNL]
  have hm : (Int64.ofInt (-1)).toBitVec = BitVec.allOnes 64 := by decide
  have h : (Int64.ofNat a &&& (Int64.ofNat b ^^^ Int64.ofInt (-1))) = Int64.ofNat (lD a b) := by
    apply Int64.toBitVec_inj.mp
    apply BitVec.eq_of_getLsbD_eq
    intro i hi
    have e : ∀ x, (Int64.ofNat x).toBitVec = BitVec.ofNat 64 x := fun _ => rfl
    rw [Int64.toBitVec_and, Int64.toBitVec_xor, hm, e, e, e, BitVec.getLsbD_and, BitVec.getLsbD_xor, BitVec.getLsbD_allOnes, BitVec.getLsbD_ofNat, BitVec.getLsbD_ofNat, BitVec.getLsbD_ofNat, lD_bit]
    simp [hi]
  rw [h, pm_toNL (Nat.lt_of_le_of_lt (lD_le a b) ha)]
