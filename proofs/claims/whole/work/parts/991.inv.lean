/-! ===== minors stay whole numbers, and small ones ===== -/
def Fb : Nat → Nat
  | 0 => 1
  | j + 1 => 9 * (j + 1) * Fb j
def bd9 (v : Nat → Int) (x : Nat) : Prop := (v x).natAbs ≤ 9
theorem wd_bd {v : Nat → Int} {C : Nat → Prop} (hv : ∀ x, C x → (v x).natAbs ≤ 9) {B : Nat} : ∀ {n : Nat} {l : List Nat} {f : List Nat → Int}, l.length = n + 1 → (∀ x, x ∈ l → C x) → (∀ k, k.length = n → (∀ x, x ∈ k → C x) → (f k).natAbs ≤ B) → (wd f v l).natAbs ≤ 9 * (n + 1) * B
  | _, [], _, h, _, _ => by cases h
  | n, x :: l, f, h, hl, hf => by
    have h1 : l.length = n := by have h' : l.length + 1 = n + 1 := h; omega
    have hl' : ∀ y, y ∈ l → C y := fun y hy => hl y (List.mem_cons_of_mem _ hy)
    have a1 : (f l * v x).natAbs ≤ B * 9 := by
      rw [Int.natAbs_mul]
      exact Nat.mul_le_mul (hf l h1 hl') (hv x (hl x List.mem_cons_self))
    have a2 : (wd (fun k => f (x :: k)) v l).natAbs ≤ 9 * n * B := by
      cases n with
      | zero =>
        have : l = [] := List.eq_nil_of_length_eq_zero h1
        rw [this]
        exact Nat.zero_le _
      | succ n => exact wd_bd hv h1 hl' (fun k hk hc => hf (x :: k) (by show k.length + 1 = _; omega) (fun y hy => by
          rcases List.mem_cons.mp hy with q | q
          · rw [q]; exact hl x List.mem_cons_self
          · exact hc y q))
    show (f l * v x - wd (fun k => f (x :: k)) v l).natAbs ≤ _
    have e : 9 * (n + 1) * B = 9 * n * B + B * 9 := by rw [Nat.mul_add, Nat.add_mul, Nat.mul_comm B 9]
    rw [e]
    generalize f l * v x = y1 at *
    generalize wd (fun k => f (x :: k)) v l = y2 at *
    omega
theorem Gf_bd {C : Nat → Prop} : ∀ {vs : List (Nat → Int)} {n : Nat} {f : List Nat → Int} {l : List Nat}, (∀ v, v ∈ vs → ∀ x, C x → (v x).natAbs ≤ 9) → l.length = n + vs.length → (∀ x, x ∈ l → C x) → (∀ k, k.length = n → (∀ x, x ∈ k → C x) → (f k).natAbs ≤ Fb n) → (Gf f vs l).natAbs ≤ Fb (n + vs.length)
  | [], n, f, l, _, h, hl, hf => hf l h hl
  | v :: vs, n, f, l, hv, h, hl, hf => by
    show (Gf (wd f v) vs l).natAbs ≤ _
    have := Gf_bd (vs := vs) (n := n + 1) (f := wd f v) (l := l) (fun w hw => hv w (List.mem_cons_of_mem _ hw)) (by have h' : l.length = n + (vs.length + 1) := h; omega) hl (fun k hk hc => wd_bd (hv v List.mem_cons_self) hk hc hf)
    rw [show n + (v :: vs).length = n + 1 + vs.length by show n + (vs.length + 1) = _; omega]
    exact this
/-- minors of the rows from n on: divided by the pivots before, and small -/
def INV (X : Nat → Nat → Int) (R C n c : Nat) (b : Int) : Prop := ∀ (ρ l : List Nat), l.length = ρ.length → ρ ≠ [] → (∀ r, r ∈ ρ → n ≤ r ∧ r < R) → (∀ i, i ∈ l → c ≤ i ∧ i < C) → ∃ q : Int, Gf one (ρ.map X) l = b ^ (ρ.length - 1) * q ∧ q.natAbs ≤ Fb (n + ρ.length)
theorem INV.ini {X : Nat → Nat → Int} {R C : Nat} (h : ∀ r i, r < R → i < C → (X r i).natAbs ≤ 9) : INV X R C 0 0 1 := by
  intro ρ l hl _ hr hc
  refine ⟨Gf one (ρ.map X) l, ?_, ?_⟩
  · rw [Int.one_pow]; omega
  · have := Gf_bd (C := fun i => i < C) (vs := ρ.map X) (n := 0) (f := one) (l := l) (fun v hv x hx => by
      obtain ⟨r, q1, rfl⟩ := List.mem_map.mp hv
      exact h r x (hr r q1).2 hx) (by rw [List.length_map]; omega) (fun x hx => (hc x hx).2) (fun k _ _ => by show (1 : Int).natAbs ≤ 1; decide)
    rw [List.length_map] at this
    exact this
theorem INV.col {X : Nat → Nat → Int} {R C n c : Nat} {b : Int} (h : INV X R C n c b) : INV X R C n (c + 1) b := fun ρ l h1 h2 h3 h4 => h ρ l h1 h2 h3 (fun i hi => by have := h4 i hi; omega)
theorem INV.perm {X : Nat → Nat → Int} {R C n c : Nat} {b : Int} (h : INV X R C n c b) {σ : Nat → Nat} (hσ : ∀ r, n ≤ r → r < R → n ≤ σ r ∧ σ r < R) : INV (fun r => X (σ r)) R C n c b := fun ρ l h1 h2 h3 h4 => by
  have := h (ρ.map σ) l (by rw [List.length_map]; exact h1) (by
    cases ρ with
    | nil => exact absurd rfl h2
    | cons a t => intro q; cases q) (fun r hr => by
    obtain ⟨a, q1, rfl⟩ := List.mem_map.mp hr
    exact hσ a (h3 a q1).1 (h3 a q1).2) h4
  rw [List.map_map, List.length_map] at this
  exact this
theorem pw_ne {b : Int} (h : b ≠ 0) : ∀ m : Nat, b ^ m ≠ 0
  | 0 => by rw [Int.pow_zero]; omega
  | m + 1 => by rw [Int.pow_succ]; exact Int.mul_ne_zero (pw_ne h m) h
theorem pw_m1 : ∀ m : Nat, ((-1 : Int)) ^ m = 1 ∨ ((-1 : Int)) ^ m = -1
  | 0 => Or.inl (Int.pow_zero _)
  | m + 1 => by
    rw [Int.pow_succ]
    rcases pw_m1 m with h | h <;> rw [h]
    · exact Or.inr rfl
    · exact Or.inl rfl
theorem INV.stp {X X' : Nat → Nat → Int} {R C n c : Nat} {b : Int} (h : INV X R C n c b) (hb : b ≠ 0) (hp : X n c ≠ 0) (hn : n < R) (hc : c < C) (hX : ∀ r i, n < r → r < R → c < i → i < C → b * X' r i = X n c * X r i - X r c * X n i) : INV X' R C (n + 1) (c + 1) (X n c) := by
  intro ρ l h1 h2 h3 h4
  obtain ⟨q, hq, hb2⟩ := h (n :: ρ) (c :: l) (by show l.length + 1 = ρ.length + 1; omega) (by intro q; cases q) (fun r hr => by
    rcases List.mem_cons.mp hr with e | e
    · rw [e]; exact ⟨Nat.le_refl _, hn⟩
    · have := h3 r e; omega) (fun i hi => by
    rcases List.mem_cons.mp hi with e | e
    · rw [e]; exact ⟨Nat.le_refl _, hc⟩
    · have := h4 i e; omega)
  have ch := chio (X := X) (n := n) (c := c) (ρ := ρ) (l := l) h1
  have e1 : (n :: ρ).length - 1 = ρ.length := by show ρ.length + 1 - 1 = _; omega
  rw [e1] at hq
  have e2 : Gf one (ρ.map (fun r i => X n c * X r i - X r c * X n i)) l = b ^ ρ.length * Gf one (ρ.map X') l := by
    have s1 := Gf_sub (C := fun i => c < i ∧ i < C) (X := fun r i => X n c * X r i - X r c * X n i) (Y := fun r i => b * X' r i) (ρ := ρ) (f := one) (g := one) (l := l) (fun x hx => by have := h4 x hx; exact ⟨by omega, this.2⟩) (fun _ _ => rfl) (fun r hr i hi => (hX r i (by have := h3 r hr; omega) (h3 r hr).2 hi.1 hi.2).symm)
    rw [s1]
    have s2 := Gf_sc b (ρ.map X') one l
    rw [List.map_map, List.length_map] at s2
    exact s2
  rw [hq, e2] at ch
  obtain ⟨p, hpp⟩ : ∃ p, p = X n c := ⟨_, rfl⟩
  rw [← hpp] at ch hp ⊢
  obtain ⟨g, hg⟩ : ∃ g, g = Gf one (ρ.map X') l := ⟨_, rfl⟩
  rw [← hg] at ch ⊢
  obtain ⟨m, hm⟩ : ∃ m, ρ.length = m + 1 := by
    cases ρ with
    | nil => exact absurd rfl h2
    | cons a t => exact ⟨t.length, rfl⟩
  have bm := pw_ne hb ρ.length
  have c1 : p ^ ρ.length * q = (-1) ^ ρ.length * (p * g) := by
    refine Int.eq_of_mul_eq_mul_left bm ?_
    generalize b ^ ρ.length = w at *
    generalize p ^ ρ.length = w2 at *
    generalize (-1 : Int) ^ ρ.length = w3 at *
    grind
  rw [hm, Int.pow_succ] at c1
  have fin : (n + (n :: ρ).length - n) = ρ.length + 1 := by show n + (ρ.length + 1) - n = _; omega
  have e5 : n + (n :: ρ).length = n + 1 + ρ.length := by show n + (ρ.length + 1) = _; omega
  rw [e5] at hb2
  rw [hm, Nat.add_sub_cancel]
  rw [hm] at hb2
  rcases pw_m1 (m + 1) with s | s
  · rw [s] at c1
    refine ⟨q, ?_, hb2⟩
    refine Int.eq_of_mul_eq_mul_left hp ?_
    generalize p ^ m = w at *
    grind
  · rw [s] at c1
    refine ⟨-q, ?_, by omega⟩
    refine Int.eq_of_mul_eq_mul_left hp ?_
    generalize p ^ m = w at *
    grind
theorem INV.b1 {X : Nat → Nat → Int} {R C n c : Nat} {b : Int} (h : INV X R C n c b) {r i : Nat} (hr : n ≤ r ∧ r < R) (hi : c ≤ i ∧ i < C) : (X r i).natAbs ≤ Fb (n + 1) := by
  obtain ⟨q, h1, h2⟩ := h [r] [i] rfl (by intro q; cases q) (fun a ha => by rw [List.mem_singleton.mp ha]; exact hr) (fun a ha => by rw [List.mem_singleton.mp ha]; exact hi)
  have e : X r i = q := by
    have e1 : Gf one ([r].map X) [i] = 1 * X r i - 0 := rfl
    have e2 : b ^ ([r].length - 1) * q = q := by show b ^ 0 * q = q; rw [Int.pow_zero]; omega
    rw [e1, e2] at h1
    omega
  rw [e]; exact h2
theorem INV.b2 {X : Nat → Nat → Int} {R C n c : Nat} {b : Int} (h : INV X R C n c b) {r i : Nat} (hn : n < R) (hc : c < C) (hr : n ≤ r ∧ r < R) (hi : c ≤ i ∧ i < C) : ∃ q : Int, X r i * X n c - X n i * X r c = b * q ∧ q.natAbs ≤ Fb (n + 2) := by
  obtain ⟨q, h1, h2⟩ := h [n, r] [c, i] rfl (by intro q; cases q) (fun a ha => by
    rcases List.mem_cons.mp ha with e | e
    · rw [e]; exact ⟨Nat.le_refl _, hn⟩
    · rw [List.mem_singleton.mp e]; exact hr) (fun a ha => by
    rcases List.mem_cons.mp ha with e | e
    · rw [e]; exact ⟨Nat.le_refl _, hc⟩
    · rw [List.mem_singleton.mp e]; exact hi)
  have e1 : Gf one ([n, r].map X) [c, i] = (1 * X n i - 0) * X r c - ((1 * X n c - 0) * X r i - 0) := rfl
  have e2 : b ^ ([n, r].length - 1) * q = b * q := by show b ^ 1 * q = b * q; rw [Int.pow_succ, Int.pow_zero]; grind
  rw [e1, e2] at h1
  have h3 : q.natAbs ≤ Fb (n + 2) := h2
  exact ⟨-q, by grind, by omega⟩
theorem Fb_6 {j : Nat} (h : j ≤ 6) : Fb j ≤ 400000000 := by
  rcases (by omega : j = 0 ∨ j = 1 ∨ j = 2 ∨ j = 3 ∨ j = 4 ∨ j = 5 ∨ j = 6) with e | e | e | e | e | e | e <;> subst e <;> decide
