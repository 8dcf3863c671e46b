/-! ===== sets that fool: cells, pairs, lists ===== -/
def ot (T : Tab) (v i : Nat) : Bool := tX T i != v && tX T i != 10
def fo (T : Tab) (v a b : Nat) : Bool := ot T v (6 * (a / 6) + b % 6) || ot T v (6 * (b / 6) + a % 6)
def frow (T : Tab) (v r : Nat) : Nat → List Nat
  | 0 => []
  | n + 1 => if tX T (6 * r + n) == v then frow T v r n ++ [6 * r + n] else frow T v r n
def fa (T : Tab) (v : Nat) : Nat → List Nat
  | 0 => []
  | r + 1 => fa T v r ++ frow T v r (tC T)
def fc (T : Tab) (v : Nat) : List Nat := fa T v (tR T)
theorem frow_s (T : Tab) (v r n : Nat) : frow T v r (n + 1) = if tX T (6 * r + n) == v then frow T v r n ++ [6 * r + n] else frow T v r n := rfl
theorem frow_len (T : Tab) (v r : Nat) : ∀ n, (frow T v r n).length ≤ n
  | 0 => Nat.le_refl _
  | n + 1 => by
    have := frow_len T v r n
    rw [frow_s]
    split
    · rw [List.length_append]; show _ + 1 ≤ _; omega
    · omega
theorem frow_mem (T : Tab) (v r x : Nat) : ∀ n, n ≤ 6 → (x ∈ frow T v r n ↔ (x / 6 = r ∧ x % 6 < n ∧ tX T x = v))
  | 0, _ => by
    constructor
    · intro h; cases h
    · rintro ⟨-, h, -⟩; omega
  | n + 1, hn => by
    have ih := frow_mem T v r x n (by omega)
    rw [frow_s]
    by_cases h : (tX T (6 * r + n) == v) = true
    · rw [if_pos h, List.mem_append, List.mem_singleton, ih]
      rw [beq_iff_eq] at h
      constructor
      · rintro (⟨a, b, c⟩ | e)
        · exact ⟨a, by omega, c⟩
        · subst e; exact ⟨by omega, by omega, h⟩
      · rintro ⟨a, b, c⟩
        by_cases e : x % 6 = n
        · right; omega
        · left; exact ⟨a, by omega, c⟩
    · rw [if_neg h, ih]
      constructor
      · rintro ⟨a, b, c⟩; exact ⟨a, by omega, c⟩
      · rintro ⟨a, b, c⟩
        refine ⟨a, ?_, c⟩
        have : x % 6 ≠ n := by
          intro e
          apply h
          rw [beq_iff_eq, show 6 * r + n = x by omega]
          exact c
        omega
theorem fa_len {T : Tab} (hT : TabOK T) (v : Nat) : ∀ r, (fa T v r).length ≤ 6 * r
  | 0 => Nat.le_refl _
  | r + 1 => by
    have h1 := fa_len hT v r
    have h2 := frow_len T v r (tC T)
    have := hT.2.1
    show (fa T v r ++ frow T v r (tC T)).length ≤ _
    rw [List.length_append]; omega
theorem fa_mem {T : Tab} (hT : TabOK T) (v x : Nat) : ∀ r, (x ∈ fa T v r ↔ (x / 6 < r ∧ x % 6 < tC T ∧ tX T x = v))
  | 0 => by
    constructor
    · intro h; cases h
    · rintro ⟨h, -⟩; omega
  | r + 1 => by
    have := hT.2.1
    show x ∈ fa T v r ++ frow T v r (tC T) ↔ _
    rw [List.mem_append, fa_mem hT v x r, frow_mem T v r x (tC T) (by omega)]
    constructor
    · rintro (⟨a, b⟩ | ⟨a, b⟩)
      · exact ⟨by omega, b⟩
      · exact ⟨by omega, b⟩
    · rintro ⟨a, b⟩
      by_cases e : x / 6 = r
      · exact Or.inr ⟨e, b⟩
      · exact Or.inl ⟨by omega, b⟩
theorem frow_srt (T : Tab) (v r : Nat) : ∀ n, n ≤ 6 → (frow T v r n).Pairwise (fun a b => a < b)
  | 0, _ => List.Pairwise.nil
  | n + 1, hn => by
    have ih := frow_srt T v r n (by omega)
    rw [frow_s]
    split
    · rw [List.pairwise_append]
      refine ⟨ih, List.pairwise_singleton _ _, fun a ha b hb => ?_⟩
      have := (frow_mem T v r a n (by omega)).mp ha
      rw [List.mem_singleton] at hb
      omega
    · exact ih
theorem fa_srt {T : Tab} (hT : TabOK T) (v : Nat) : ∀ r, (fa T v r).Pairwise (fun a b => a < b)
  | 0 => List.Pairwise.nil
  | r + 1 => by
    have := hT.2.1
    show (fa T v r ++ frow T v r (tC T)).Pairwise _
    rw [List.pairwise_append]
    refine ⟨fa_srt hT v r, frow_srt T v r _ (by omega), fun a ha b hb => ?_⟩
    have h1 := (fa_mem hT v a r).mp ha
    have h2 := (frow_mem T v r b (tC T) (by omega)).mp hb
    omega
theorem fc_len {T : Tab} (hT : TabOK T) (v : Nat) : (fc T v).length ≤ 36 := by
  have := fa_len hT v (tR T)
  have := hT.1
  unfold fc; omega
/-! ===== all sets of which any two fool: how many, the first greatest ===== -/
def Cx (f : Nat → Nat → Bool) (g : List Nat → Nat) : List Nat → Nat
  | [] => 0
  | x :: l => g (l.filter (f x)) + Cx f g l
def CC (f : Nat → Nat → Bool) : Nat → List Nat → Nat
  | 0 => fun _ => 1
  | n + 1 => Cx f (CC f n)
def IsK (f : Nat → Nat → Bool) (l q : List Nat) : Prop := q.Sublist l ∧ q.Pairwise (fun a b => f a b = true)
theorem IsK_nil (f : Nat → Nat → Bool) (l : List Nat) : IsK f l [] := ⟨List.nil_sublist l, List.Pairwise.nil⟩
theorem IsK_e {f : Nat → Nat → Bool} {q : List Nat} (h : IsK f [] q) : q = [] := List.sublist_nil.mp h.1
theorem IsK_len {f : Nat → Nat → Bool} {l q : List Nat} (h : IsK f l q) : q.length ≤ l.length := h.1.length_le
theorem IsK_cons {f : Nat → Nat → Bool} {x : Nat} {l q : List Nat} : IsK f (x :: l) q ↔ (IsK f l q ∨ ∃ q', q = x :: q' ∧ IsK f (l.filter (f x)) q') := by
  unfold IsK
  rw [List.sublist_cons_iff]
  constructor
  · rintro ⟨h1 | ⟨r, rfl, h1⟩, h2⟩
    · exact Or.inl ⟨h1, h2⟩
    · rw [List.pairwise_cons] at h2
      refine Or.inr ⟨r, rfl, ?_, h2.2⟩
      have h3 := h1.filter (f x)
      rw [List.filter_eq_self.mpr h2.1] at h3
      exact h3
  · rintro (⟨h1, h2⟩ | ⟨r, rfl, h1, h2⟩)
    · exact ⟨Or.inl h1, h2⟩
    · refine ⟨Or.inr ⟨r, rfl, h1.trans List.filter_sublist⟩, List.pairwise_cons.mpr ⟨fun a ha => ?_, h2⟩⟩
      exact (List.mem_filter.mp (h1.subset ha)).2
/-- the elements of a list that a mask names -/
def lsx (m : Nat) : Nat → List Nat → List Nat
  | _, [] => []
  | i, x :: l => if m.testBit i then x :: lsx m (i + 1) l else lsx m (i + 1) l
theorem lsx_c (m i x : Nat) (l : List Nat) : lsx m i (x :: l) = if m.testBit i then x :: lsx m (i + 1) l else lsx m (i + 1) l := rfl
theorem lsx_filter {m m' : Nat} {p : Nat → Bool} : ∀ (l : List Nat) (i : Nat), (∀ j x, l[j]? = some x → m'.testBit (i + j) = (m.testBit (i + j) && p x)) → (lsx m i l).filter p = lsx m' i l
  | [], _, _ => rfl
  | x :: l, i, h => by
    have ih := lsx_filter l (i + 1) (fun j y hj => by have := h (j + 1) y hj; rw [show i + 1 + j = i + (j + 1) by omega]; exact this)
    have h0 := h 0 x rfl
    rw [Nat.add_zero] at h0
    rw [lsx_c, lsx_c]
    by_cases hm : m.testBit i = true
    · rw [if_pos hm, List.filter_cons, ih, h0, hm, Bool.true_and]
    · rw [if_neg hm, ih, h0, Bool.eq_false_iff.mpr hm, Bool.false_and]; simp
theorem lsx_pre {m : Nat} : ∀ (pre l : List Nat) (i : Nat), (∀ j, j < pre.length → m.testBit (i + j) = false) → lsx m i (pre ++ l) = lsx m (i + pre.length) l
  | [], l, i, _ => rfl
  | x :: pre, l, i, h => by
    have h0 := h 0 (by rw [List.length_cons]; omega)
    rw [Nat.add_zero] at h0
    rw [List.cons_append, lsx_c, h0, lsx_pre pre l (i + 1) (fun j hj => by rw [show i + 1 + j = i + (j + 1) by omega]; exact h (j + 1) (by rw [List.length_cons]; omega))]
    rw [List.length_cons, show i + 1 + pre.length = i + (pre.length + 1) by omega]; simp
theorem lsx_sub {m : Nat} : ∀ (l : List Nat) (i : Nat), (lsx m i l).Sublist l
  | [], _ => List.Sublist.slnil
  | x :: l, i => by
    rw [lsx_c]
    split
    · exact (lsx_sub l (i + 1)).cons_cons x
    · exact (lsx_sub l (i + 1)).cons x
theorem lsx_all {m : Nat} : ∀ (l : List Nat) (i : Nat), (∀ j, j < l.length → m.testBit (i + j) = true) → lsx m i l = l
  | [], _, _ => rfl
  | x :: l, i, h => by
    have h0 := h 0 (by rw [List.length_cons]; omega)
    rw [Nat.add_zero] at h0
    rw [lsx_c, h0, lsx_all l (i + 1) (fun j hj => by rw [show i + 1 + j = i + (j + 1) by omega]; exact h (j + 1) (by rw [List.length_cons]; omega))]
    simp
theorem sm_shift (f : Nat → Nat) : ∀ n, sm f (n + 1) = f 0 + sm (fun i => f (i + 1)) n
  | 0 => by show 0 + f 0 = f 0 + 0; omega
  | n + 1 => by
    show sm f (n + 1) + f (n + 1) = f 0 + (sm (fun i => f (i + 1)) n + f (n + 1))
    rw [sm_shift f n]; omega
theorem popL_half {x : Nat} (hx : x < 68719476736) : popL x = bt x 0 + popL (x / 2) := by
  unfold popL
  rw [sm_shift (fun i => bt x i) 35]
  show _ = _ + (sm (fun i => bt (x / 2) i) 35 + bt (x / 2) 35)
  have h1 : bt (x / 2) 35 = 0 := bt_high (by omega)
  rw [h1, Nat.add_zero]
  rw [show sm (fun i => bt x (i + 1)) 35 = sm (fun i => bt (x / 2) i) 35 from sm_congr (fun i _ => by unfold bt; rw [Nat.testBit_div_two])]
theorem popL_s {m i : Nat} (hm : m < 68719476736) : popL (m / 2 ^ i) = bt m i + popL (m / 2 ^ (i + 1)) := by
  rw [popL_half (Nat.lt_of_le_of_lt (Nat.div_le_self _ _) hm), Nat.div_div_eq_div_mul, ← Nat.pow_succ]
  congr 1
  unfold bt
  rw [Nat.testBit_div_two_pow, Nat.zero_add]
theorem lsx_len {m : Nat} (hm : m < 68719476736) : ∀ (l : List Nat) (i : Nat), (lsx m i l).length ≤ popL (m / 2 ^ i)
  | [], _ => Nat.zero_le _
  | x :: l, i => by
    have ih := lsx_len hm l (i + 1)
    rw [lsx_c, popL_s hm]
    unfold bt
    split
    · rw [List.length_cons]; omega
    · omega
/-- rows of equal length one behind another -/
def lx : List Nat → List Nat → Prop
  | [], _ => True
  | _ :: _, [] => False
  | a :: q, b :: q' => a < b ∨ (a = b ∧ lx q q')
theorem lx_anti : ∀ {q q' : List Nat}, lx q q' → lx q' q → q.length = q'.length → q = q'
  | [], [], _, _, _ => rfl
  | [], _ :: _, _, _, h => by cases h
  | _ :: _, [], _, _, h => by cases h
  | a :: q, b :: q', h1, h2, h3 => by
    have h3 : q.length = q'.length := by simpa using h3
    have h1 : a < b ∨ (a = b ∧ lx q q') := h1
    have h2 : b < a ∨ (b = a ∧ lx q' q) := h2
    rcases h1 with h1 | ⟨e, h1⟩
    · rcases h2 with h2 | ⟨e2, _⟩
      · omega
      · omega
    · rcases h2 with h2 | ⟨_, h2⟩
      · omega
      · rw [e, lx_anti h1 h2 h3]
theorem lx_refl : ∀ q : List Nat, lx q q
  | [] => trivial
  | _ :: q => Or.inr ⟨rfl, lx_refl q⟩
/-- the first greatest, found by going on from (t, X) through the set S -/
def Rs (S : List Nat → Prop) (P : List Nat) (t : Nat) (X : List Nat) (t' : Nat) (X' : List Nat) : Prop :=
  t ≤ t' ∧ (∀ q, S q → P.length + q.length ≤ t') ∧ (t' = t → X' = X) ∧ (t < t' → ∃ q, S q ∧ P.length + q.length = t' ∧ X' = P ++ q ∧ ∀ q', S q' → P.length + q'.length = t' → lx q q')
theorem Rs.comp {S1 S2 S : List Nat → Prop} {P X X1 X2 : List Nat} {t t1 t2 : Nat} (h : Rs S1 P t X t1 X1) (k : Rs S2 P t1 X1 t2 X2) (hl : ∀ a b, S1 a → S2 b → lx a b) (hS : ∀ q, S q ↔ (S1 q ∨ S2 q)) : Rs S P t X t2 X2 := by
  obtain ⟨a1, a2, a3, a4⟩ := h
  obtain ⟨b1, b2, b3, b4⟩ := k
  refine ⟨by omega, fun q hq => ?_, fun e => ?_, fun e => ?_⟩
  · rcases (hS q).mp hq with h | h
    · have := a2 q h; omega
    · exact b2 q h
  · rw [b3 (by omega), a3 (by omega)]
  · by_cases c : t1 = t2
    · obtain ⟨q, c1, c2, c3, c4⟩ := a4 (by omega)
      refine ⟨q, (hS q).mpr (Or.inl c1), by omega, by rw [b3 c.symm, c3], fun q' hq hl' => ?_⟩
      rcases (hS q').mp hq with h | h
      · exact c4 q' h (by omega)
      · exact hl q q' c1 h
    · obtain ⟨q, c1, c2, c3, c4⟩ := b4 (by omega)
      refine ⟨q, (hS q).mpr (Or.inr c1), c2, c3, fun q' hq hl' => ?_⟩
      rcases (hS q').mp hq with h | h
      · have := a2 q' h; omega
      · exact c4 q' h hl'
theorem Rs.none {S : List Nat → Prop} {P X : List Nat} {t : Nat} (h : ∀ q, S q → P.length + q.length ≤ t) : Rs S P t X t X :=
  ⟨Nat.le_refl _, h, fun _ => rfl, fun e => by omega⟩
theorem Rs.set {S S' : List Nat → Prop} {P X X' : List Nat} {t t' : Nat} (h : Rs S P t X t' X') (hS : ∀ q, S' q ↔ S q) : Rs S' P t X t' X' := by
  have e : S' = S := funext (fun q => propext (hS q))
  rw [e]; exact h
/-- one more on the path -/
theorem Rs.push {S : List Nat → Prop} {P X X' : List Nat} {t t' x : Nat} (h : Rs S (P ++ [x]) t X t' X') : Rs (fun q => ∃ q', q = x :: q' ∧ S q') P t X t' X' := by
  obtain ⟨a1, a2, a3, a4⟩ := h
  rw [List.length_append] at a2 a4
  refine ⟨a1, ?_, a3, fun e => ?_⟩
  · rintro q ⟨q', rfl, hq⟩
    have := a2 q' hq
    rw [List.length_cons]
    have e1 : [x].length = 1 := rfl
    omega
  · obtain ⟨q, c1, c2, c3, c4⟩ := a4 e
    have e1 : [x].length = 1 := rfl
    refine ⟨x :: q, ⟨q, rfl, c1⟩, by rw [List.length_cons]; omega, by rw [c3, List.append_assoc]; rfl, ?_⟩
    rintro q'' ⟨q', rfl, hq⟩ hl
    rw [List.length_cons] at hl
    exact Or.inr ⟨rfl, c4 q' hq (by omega)⟩
/-- of one row at most one cell -/
theorem inc_len {n : Nat} : ∀ (q : List Nat) (lo : Nat), q.Pairwise (fun a b => a < b) → (∀ x, x ∈ q → lo ≤ x ∧ x < n) → q.length ≤ n - lo
  | [], _, _, _ => Nat.zero_le _
  | x :: q, lo, h1, h2 => by
    rw [List.pairwise_cons] at h1
    have hx := h2 x (List.mem_cons_self ..)
    have := inc_len q (x + 1) h1.2 (fun y hy => ⟨h1.1 y hy, (h2 y (List.mem_cons_of_mem x hy)).2⟩)
    rw [List.length_cons]; omega
theorem fo_row {T : Tab} {v a b : Nat} (ha : tX T a = v) (hb : tX T b = v) (h : fo T v a b = true) : a / 6 ≠ b / 6 := by
  intro e
  unfold fo ot at h
  rw [e, show 6 * (b / 6) + b % 6 = b by omega, ← e, show 6 * (a / 6) + a % 6 = a by omega] at h
  simp [ha, hb] at h
theorem pw_map {R S : Nat → Nat → Prop} {g : Nat → Nat} : ∀ {l : List Nat}, l.Pairwise R → (∀ a, a ∈ l → ∀ b, b ∈ l → R a b → S (g a) (g b)) → (l.map g).Pairwise S
  | [], _, _ => List.Pairwise.nil
  | x :: l, h, k => by
    rw [List.pairwise_cons] at h
    rw [List.map_cons, List.pairwise_cons]
    refine ⟨fun y hy => ?_, pw_map h.2 (fun a ha b hb => k a (List.mem_cons_of_mem x ha) b (List.mem_cons_of_mem x hb))⟩
    obtain ⟨z, hz, rfl⟩ := List.mem_map.mp hy
    exact k x (List.mem_cons_self ..) z (List.mem_cons_of_mem x hz) (h.1 z hz)
theorem IsK_6 {T : Tab} (hT : TabOK T) {v : Nat} {q : List Nat} (h : IsK (fo T v) (fc T v) q) : q.length ≤ 6 := by
  have h1 : q.Pairwise (fun a b => a < b ∧ fo T v a b = true) := (List.Pairwise.and (fa_srt hT v (tR T) |>.sublist h.1) h.2)
  have hm : ∀ x, x ∈ q → x / 6 < tR T ∧ x % 6 < tC T ∧ tX T x = v := fun x hx => (fa_mem hT v x (tR T)).mp (h.1.subset hx)
  have h2 : (q.map (fun x => x / 6)).Pairwise (fun a b => a < b) := pw_map h1 (fun a ha b hb hr => by
    have := fo_row (hm a ha).2.2 (hm b hb).2.2 hr.2
    show a / 6 < b / 6
    omega)
  have h3 := inc_len (n := 6) _ 0 h2 (fun x hx => by
    obtain ⟨z, hz, rfl⟩ := List.mem_map.mp hx
    have := (hm z hz).1
    have := hT.1
    omega)
  rw [List.length_map] at h3
  omega
