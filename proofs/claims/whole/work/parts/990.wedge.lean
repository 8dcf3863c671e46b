/-! ===== forms and rows: minors without a determinant ===== -/
def wd (f : List Nat → Int) (v : Nat → Int) : List Nat → Int
  | [] => 0
  | x :: l => f l * v x - wd (fun k => f (x :: k)) v l
theorem wd_lin (a b : Int) (v : Nat → Int) : ∀ (l : List Nat) (f g : List Nat → Int), wd (fun k => a * f k + b * g k) v l = a * wd f v l + b * wd g v l
  | [], _, _ => by show (0 : Int) = a * 0 + b * 0; omega
  | x :: l, f, g => by
    show (a * f l + b * g l) * v x - wd (fun k => a * f (x :: k) + b * g (x :: k)) v l = a * (f l * v x - wd (fun k => f (x :: k)) v l) + b * (g l * v x - wd (fun k => g (x :: k)) v l)
    rw [wd_lin a b v l (fun k => f (x :: k)) (fun k => g (x :: k))]
    grind
theorem wd_row (t : Int) (v w : Nat → Int) : ∀ (l : List Nat) (f : List Nat → Int), wd f (fun i => v i + t * w i) l = wd f v l + t * wd f w l
  | [], _ => by show (0 : Int) = 0 + t * 0; omega
  | x :: l, f => by
    show f l * (v x + t * w x) - wd (fun k => f (x :: k)) (fun i => v i + t * w i) l = f l * v x - wd (fun k => f (x :: k)) v l + t * (f l * w x - wd (fun k => f (x :: k)) w l)
    rw [wd_row t v w l (fun k => f (x :: k))]
    grind
theorem wd_sc (t : Int) (v : Nat → Int) : ∀ (l : List Nat) (f : List Nat → Int), wd f (fun i => t * v i) l = t * wd f v l
  | [], _ => by show (0 : Int) = t * 0; omega
  | x :: l, f => by
    show f l * (t * v x) - wd (fun k => f (x :: k)) (fun i => t * v i) l = t * (f l * v x - wd (fun k => f (x :: k)) v l)
    rw [wd_sc t v l (fun k => f (x :: k))]
    grind
theorem wd_fsc (t : Int) (f : List Nat → Int) (v : Nat → Int) (l : List Nat) : wd (fun k => t * f k) v l = t * wd f v l := by
  have h := wd_lin t 0 v l f f
  have e : (fun k => t * f k + 0 * f k) = fun k => t * f k := funext (fun k => by grind)
  rw [e] at h
  rw [h]
  grind
theorem wd_anti (v w : Nat → Int) : ∀ (l : List Nat) (f : List Nat → Int), wd (wd f v) w l = - wd (wd f w) v l
  | [], _ => rfl
  | x :: l, f => by
    have key : ∀ v w : Nat → Int, wd (wd f v) w (x :: l) = wd f v l * w x - v x * wd f w l + wd (wd (fun k => f (x :: k)) v) w l := fun v w => by
      show wd f v l * w x - wd (fun k => wd f v (x :: k)) w l = _
      have e : (fun k => wd f v (x :: k)) = fun k => v x * f k + (-1) * wd (fun k => f (x :: k)) v k := funext (fun k => by
        show f k * v x - wd (fun k => f (x :: k)) v k = _
        grind)
      rw [e, wd_lin (v x) (-1) w l f (wd (fun k => f (x :: k)) v)]
      grind
    rw [key v w, key w v, wd_anti v w l (fun k => f (x :: k))]
    grind
theorem wd_cf {v : Nat → Int} : ∀ {n : Nat} {l : List Nat} {f g : List Nat → Int}, l.length = n + 1 → (∀ k, k.length = n → f k = g k) → wd f v l = wd g v l
  | _, [], _, _, h, _ => by cases h
  | n, x :: l, f, g, h, e => by
    have hl : l.length = n := by have h' : l.length + 1 = n + 1 := h; omega
    show f l * v x - wd (fun k => f (x :: k)) v l = g l * v x - wd (fun k => g (x :: k)) v l
    rw [e l hl]
    cases n with
    | zero =>
      have : l = [] := List.eq_nil_of_length_eq_zero hl
      rw [this]; rfl
    | succ n => rw [wd_cf (n := n) hl (f := fun k => f (x :: k)) (g := fun k => g (x :: k)) (fun k hk => e (x :: k) (by show k.length + 1 = _; omega))]
theorem wd_cv : ∀ {l : List Nat} {f : List Nat → Int} {v w : Nat → Int}, (∀ x, x ∈ l → v x = w x) → wd f v l = wd f w l
  | [], _, _, _, _ => rfl
  | x :: l, f, v, w, e => by
    show f l * v x - wd (fun k => f (x :: k)) v l = f l * w x - wd (fun k => f (x :: k)) w l
    rw [e x (List.mem_cons_self), wd_cv (l := l) (fun y hy => e y (List.mem_cons_of_mem _ hy))]
/-- rows one behind the other -/
def Gf (f : List Nat → Int) : List (Nat → Int) → List Nat → Int
  | [] => f
  | v :: vs => Gf (wd f v) vs
theorem Gf_fsc (t : Int) : ∀ (vs : List (Nat → Int)) (f : List Nat → Int) (l : List Nat), Gf (fun k => t * f k) vs l = t * Gf f vs l
  | [], _, _ => rfl
  | v :: vs, f, l => by
    show Gf (wd (fun k => t * f k) v) vs l = t * Gf (wd f v) vs l
    rw [show wd (fun k => t * f k) v = fun k => t * wd f v k from funext (fun k => wd_fsc t f v k), Gf_fsc t vs (wd f v) l]
theorem Gf_sc (t : Int) : ∀ (vs : List (Nat → Int)) (f : List Nat → Int) (l : List Nat), Gf f (vs.map (fun v i => t * v i)) l = t ^ vs.length * Gf f vs l
  | [], f, l => by show f l = t ^ 0 * f l; rw [Int.pow_zero]; omega
  | v :: vs, f, l => by
    show Gf (wd f (fun i => t * v i)) (vs.map (fun v i => t * v i)) l = t ^ (vs.length + 1) * Gf (wd f v) vs l
    rw [show wd f (fun i => t * v i) = fun k => t * wd f v k from funext (fun k => wd_sc t v k f), Gf_fsc, Gf_sc t vs (wd f v) l, Int.pow_succ]
    grind
theorem Gf_cf : ∀ {vs : List (Nat → Int)} {n : Nat} {f g : List Nat → Int} {l : List Nat}, l.length = n + vs.length → (∀ k, k.length = n → f k = g k) → Gf f vs l = Gf g vs l
  | [], n, f, g, l, h, e => e l h
  | v :: vs, n, f, g, l, h, e => by
    show Gf (wd f v) vs l = Gf (wd g v) vs l
    exact Gf_cf (n := n + 1) (by have h' : l.length = n + (vs.length + 1) := h; omega) (fun k hk => wd_cf hk e)
theorem wd_sub {v w : Nat → Int} {C : Nat → Prop} (h : ∀ x, C x → v x = w x) {f : List Nat → Int} {l : List Nat} (hl : ∀ x, x ∈ l → C x) : wd f v l = wd f w l := wd_cv (fun x hx => h x (hl x hx))
theorem wd_cfs {v : Nat → Int} {C : Nat → Prop} : ∀ {l : List Nat} {f g : List Nat → Int}, (∀ x, x ∈ l → C x) → (∀ k, (∀ x, x ∈ k → C x) → f k = g k) → wd f v l = wd g v l
  | [], _, _, _, _ => rfl
  | x :: l, f, g, hl, e => by
    show f l * v x - wd (fun k => f (x :: k)) v l = g l * v x - wd (fun k => g (x :: k)) v l
    have hl' : ∀ y, y ∈ l → C y := fun y hy => hl y (List.mem_cons_of_mem _ hy)
    rw [e l hl', wd_cfs (l := l) (f := fun k => f (x :: k)) (g := fun k => g (x :: k)) hl' (fun k hk => e (x :: k) (fun y hy => by
      rcases List.mem_cons.mp hy with q | q
      · rw [q]; exact hl x (List.mem_cons_self)
      · exact hk y q))]
/-- rows that agree on the columns asked -/
theorem Gf_sub {C : Nat → Prop} {X Y : Nat → Nat → Int} : ∀ {ρ : List Nat} {f g : List Nat → Int} {l : List Nat}, (∀ x, x ∈ l → C x) → (∀ k, (∀ x, x ∈ k → C x) → f k = g k) → (∀ r, r ∈ ρ → ∀ i, C i → X r i = Y r i) → Gf f (ρ.map X) l = Gf g (ρ.map Y) l
  | [], f, g, l, hl, e, _ => e l hl
  | r :: ρ, f, g, l, hl, e, h => by
    show Gf (wd f (X r)) (ρ.map X) l = Gf (wd g (Y r)) (ρ.map Y) l
    refine Gf_sub hl (fun k hk => ?_) (fun r' hr' => h r' (List.mem_cons_of_mem _ hr'))
    rw [wd_sub (C := C) (h r List.mem_cons_self) hk, wd_cfs hk e]
/-- multiples of a row that is in already add nothing -/
theorem Gf_add {w : Nat → Int} : ∀ (vs : List (Nat → Int)) (f : List Nat → Int) (t : (Nat → Int) → Int) (l : List Nat), (∀ k, wd f w k = 0) → Gf f (vs.map (fun v i => v i + t v * w i)) l = Gf f vs l
  | [], _, _, _, _ => rfl
  | v :: vs, f, t, l, h => by
    show Gf (wd f (fun i => v i + t v * w i)) (vs.map (fun v i => v i + t v * w i)) l = Gf (wd f v) vs l
    have e : wd f (fun i => v i + t v * w i) = wd f v := funext (fun k => by rw [wd_row, h k]; omega)
    rw [e]
    refine Gf_add vs (wd f v) t l (fun k => ?_)
    have z : wd f w = fun _ => 0 := funext h
    have z2 : ∀ k, wd (fun _ => (0 : Int)) v k = 0 := fun k => by
      have := wd_fsc 0 (fun _ => 0) v k
      rw [show (fun _ : List Nat => (0 : Int) * 0) = fun _ => 0 from rfl] at this
      rw [this]; omega
    rw [wd_anti v w k f, z, z2]; rfl
theorem wd_self (f : List Nat → Int) (w : Nat → Int) (k : List Nat) : wd (wd f w) w k = 0 := by
  have := wd_anti w w k f
  omega
/-- rows without anything in the first column -/
theorem Gf_0 {x : Nat} : ∀ (vs : List (Nat → Int)) (f : List Nat → Int) (l : List Nat), (∀ v, v ∈ vs → v x = 0) → Gf f vs (x :: l) = (-1) ^ vs.length * Gf (fun k => f (x :: k)) vs l
  | [], f, l, _ => by show f (x :: l) = (-1) ^ 0 * f (x :: l); rw [Int.pow_zero]; omega
  | v :: vs, f, l, h => by
    show Gf (wd f v) vs (x :: l) = (-1) ^ (vs.length + 1) * Gf (wd (fun k => f (x :: k)) v) vs l
    rw [Gf_0 vs (wd f v) l (fun w hw => h w (List.mem_cons_of_mem _ hw))]
    have e : (fun k => wd f v (x :: k)) = fun k => (-1) * wd (fun k => f (x :: k)) v k := funext (fun k => by
      show f k * v x - wd (fun k => f (x :: k)) v k = _
      rw [h v List.mem_cons_self]
      grind)
    rw [e, Gf_fsc, Int.pow_succ]
    grind
abbrev one : List Nat → Int := fun _ => 1
/-- one step of the elimination: what minors of the new rows come to -/
theorem chio {X : Nat → Nat → Int} {n c : Nat} {ρ : List Nat} {l : List Nat} (hl : l.length = ρ.length) :
    X n c ^ ρ.length * Gf one ((n :: ρ).map X) (c :: l) = (-1) ^ ρ.length * (X n c * Gf one (ρ.map (fun r i => X n c * X r i - X r c * X n i)) l) := by
  obtain ⟨p, hp⟩ : ∃ p, p = X n c := ⟨_, rfl⟩
  rw [← hp]
  have d1 : ∀ k, wd (wd one (X n)) (X n) k = 0 := wd_self one (X n)
  have len : (ρ.map X).length = ρ.length := List.length_map _
  show p ^ ρ.length * Gf (wd one (X n)) (ρ.map X) (c :: l) = _
  rw [← len, ← Gf_sc p (ρ.map X) (wd one (X n)) (c :: l), len]
  have ra := Gf_add ((ρ.map X).map (fun v i => p * v i)) (wd one (X n)) (fun v => 0) (c :: l) d1
  have step : Gf (wd one (X n)) ((ρ.map X).map (fun v i => p * v i)) (c :: l) = Gf (wd one (X n)) (ρ.map (fun r i => p * X r i - X r c * X n i)) (c :: l) := by
    clear ra
    have gen : ∀ (ρ : List Nat) (f : List Nat → Int) (l : List Nat), (∀ k, wd f (X n) k = 0) → Gf f ((ρ.map X).map (fun v i => p * v i)) l = Gf f (ρ.map (fun r i => p * X r i - X r c * X n i)) l := by
      intro ρ
      induction ρ with
      | nil => intro f l _; rfl
      | cons r ρ ih =>
        intro f l h
        show Gf (wd f (fun i => p * X r i)) ((ρ.map X).map (fun v i => p * v i)) l = Gf (wd f (fun i => p * X r i - X r c * X n i)) (ρ.map (fun r i => p * X r i - X r c * X n i)) l
        have e : wd f (fun i => p * X r i - X r c * X n i) = wd f (fun i => p * X r i) := funext (fun k => by
          have e2 : (fun i => p * X r i - X r c * X n i) = fun i => p * X r i + (-(X r c)) * X n i := funext (fun i => by grind)
          rw [e2, wd_row (-(X r c)) (fun i => p * X r i) (X n) k f, h k]
          omega)
        rw [e]
        refine ih (wd f (fun i => p * X r i)) l (fun k => ?_)
        have z : wd f (X n) = fun _ => 0 := funext h
        have z2 : ∀ k, wd (fun _ => (0 : Int)) (fun i => p * X r i) k = 0 := fun k => by
          have := wd_fsc 0 (fun _ => 0) (fun i => p * X r i) k
          rw [show (fun _ : List Nat => (0 : Int) * 0) = fun _ => 0 from rfl] at this
          rw [this]; omega
        rw [wd_anti (fun i => p * X r i) (X n) k f, z, z2]; rfl
    exact gen ρ (wd one (X n)) (c :: l) d1
  rw [step, Gf_0 (x := c) (ρ.map (fun r i => p * X r i - X r c * X n i)) (wd one (X n)) l (fun v hv => by
    obtain ⟨r, _, rfl⟩ := List.mem_map.mp hv
    show p * X r c - X r c * X n c = 0
    rw [hp, Int.mul_comm]
    omega), List.length_map]
  have e3 : Gf (fun k => wd one (X n) (c :: k)) (ρ.map (fun r i => p * X r i - X r c * X n i)) l = Gf (fun k => p * one k) (ρ.map (fun r i => p * X r i - X r c * X n i)) l := Gf_cf (n := 0) (by rw [List.length_map]; omega) (fun k hk => by
    have : k = [] := List.eq_nil_of_length_eq_zero hk
    rw [this]
    show 1 * X n c - 0 = p * 1
    rw [hp]; omega)
  rw [e3, Gf_fsc]
