/-! ===== the elimination as mathematics ===== -/
abbrev Mx : Type := Nat → Nat → Int
def fpv (X : Mx) (c : Nat) : Nat → Nat → Nat
  | 0, r => r
  | n + 1, r => if X r c = 0 then fpv X c n (r + 1) else r
theorem fpv_le (X : Mx) (c : Nat) : ∀ n r, r ≤ fpv X c n r ∧ fpv X c n r ≤ r + n
  | 0, r => ⟨Nat.le_refl _, Nat.le_refl _⟩
  | n + 1, r => by
    show r ≤ (if X r c = 0 then fpv X c n (r + 1) else r) ∧ (if X r c = 0 then fpv X c n (r + 1) else r) ≤ r + (n + 1)
    have := fpv_le X c n (r + 1)
    split <;> omega
theorem fpv_nz (X : Mx) (c : Nat) : ∀ n r, fpv X c n r < r + n → X (fpv X c n r) c ≠ 0
  | 0, r, h => by have h' : r < r + 0 := h; omega
  | n + 1, r, h => by
    show X (if X r c = 0 then fpv X c n (r + 1) else r) c ≠ 0
    replace h : (if X r c = 0 then fpv X c n (r + 1) else r) < r + (n + 1) := h
    by_cases e : X r c = 0
    · rw [if_pos e] at h ⊢; exact fpv_nz X c n (r + 1) (by omega)
    · rw [if_neg e]; exact e
theorem fpv_z (X : Mx) (c : Nat) : ∀ n r, r + n ≤ fpv X c n r → ∀ a, r ≤ a → a < r + n → X a c = 0
  | 0, r, _, a, h1, h2 => by omega
  | n + 1, r, h, a, h1, h2 => by
    replace h : r + (n + 1) ≤ (if X r c = 0 then fpv X c n (r + 1) else r) := h
    by_cases e : X r c = 0
    · rw [if_pos e] at h
      by_cases q : a = r
      · rw [q]; exact e
      · exact fpv_z X c n (r + 1) (by omega) a (by omega) (by omega)
    · rw [if_neg e] at h; omega
theorem fpv_congr {X Y : Mx} {c : Nat} : ∀ {n r : Nat}, (∀ a, r ≤ a → a < r + n → (X a c = 0 ↔ Y a c = 0)) → fpv X c n r = fpv Y c n r
  | 0, _, _ => rfl
  | n + 1, r, h => by
    show (if X r c = 0 then fpv X c n (r + 1) else r) = if Y r c = 0 then fpv Y c n (r + 1) else r
    have h0 := h r (Nat.le_refl _) (by omega)
    rw [fpv_congr (X := X) (Y := Y) (n := n) (r := r + 1) (fun a h1 h2 => h a (by omega) (by omega))]
    by_cases e : X r c = 0
    · rw [if_pos e, if_pos (h0.mp e)]
    · rw [if_neg e, if_neg (fun q => e (h0.mpr q))]
def swp (X : Mx) (n r : Nat) : Mx := fun a i => if a = n then X r i else if a = r then X n i else X a i
def red (p : Nat) (b z : Int) : Int := if 0 < p then z.tmod p else if b = 0 then z else z.tdiv b
def clr (p : Nat) (b : Int) (X : Mx) (n c : Nat) : Mx := fun a i => if n < a ∧ c ≤ i then red p b (X a i * X n c - X n i * X a c) else X a i
abbrev Es : Type := Nat × Int × Mx
def elS (p R : Nat) (s : Es) (c : Nat) : Es := if s.1 < R ∧ fpv s.2.2 c (R - s.1) s.1 < R then (s.1 + 1, swp s.2.2 s.1 (fpv s.2.2 c (R - s.1) s.1) s.1 c, clr p s.2.1 (swp s.2.2 s.1 (fpv s.2.2 c (R - s.1) s.1)) s.1 c) else s
def el (p R : Nat) (X0 : Mx) : Nat → Es
  | 0 => (0, 1, X0)
  | c + 1 => elS p R (el p R X0 c) c
def GX (p R C n c : Nat) (b : Int) (X : Mx) : Prop := (p = 0 ∧ INV X R C n c b ∧ b ≠ 0 ∧ b.natAbs ≤ 400000000) ∨ (1 ≤ p ∧ p ≤ 97 ∧ ∀ r i, r < R → i < C → (X r i).natAbs < p)
theorem GX.bd {p R C n c : Nat} {b : Int} {X : Mx} (h : GX p R C n c b X) (hR : R ≤ 6) {r i : Nat} (hr : n ≤ r ∧ r < R) (hi : c ≤ i ∧ i < C) : (X r i).natAbs ≤ 400000000 := by
  rcases h with ⟨_, h, _, _⟩ | ⟨_, h2, h⟩
  · have := h.b1 hr hi
    have := Fb_6 (j := n + 1) (by omega)
    omega
  · have := h r i hr.2 hi.2
    omega
theorem GX.col {p R C n c : Nat} {b : Int} {X : Mx} (h : GX p R C n c b X) : GX p R C n (c + 1) b X := by
  rcases h with ⟨h1, h2, h3, h4⟩ | h
  · exact Or.inl ⟨h1, h2.col, h3, h4⟩
  · exact Or.inr h
theorem swp_eq (X : Mx) (n r : Nat) : swp X n r = fun a => X (if a = n then r else if a = r then n else a) := by
  funext a i
  unfold swp
  split
  · rfl
  · split <;> rfl
theorem GX.swp {p R C n c : Nat} {b : Int} {X : Mx} (h : GX p R C n c b X) {r : Nat} (hn : n < R) (hr : n ≤ r ∧ r < R) : GX p R C n c b (swp X n r) := by
  rw [swp_eq]
  rcases h with ⟨h1, h2, h3, h4⟩ | ⟨h1, h2, h3⟩
  · exact Or.inl ⟨h1, h2.perm (fun a q1 q2 => by split; exact hr; split <;> omega), h3, h4⟩
  · refine Or.inr ⟨h1, h2, fun a i q1 q2 => h3 _ i ?_ q2⟩
    split
    · omega
    · split <;> omega
theorem GX.stp {p R C n c : Nat} {b : Int} {X : Mx} (h : GX p R C n c b X) (hR : R ≤ 6) (hn : n < R) (hc : c < C) (hp : X n c ≠ 0) : GX p R C (n + 1) (c + 1) (X n c) (clr p b X n c) := by
  rcases h with ⟨h1, h2, h3, h4⟩ | ⟨h1, h2, h3⟩
  · have b1 := h2.b1 (r := n) (i := c) ⟨Nat.le_refl _, hn⟩ ⟨Nat.le_refl _, hc⟩
    have f6 := Fb_6 (j := n + 1) (by omega)
    refine Or.inl ⟨h1, h2.stp h3 hp hn hc (fun r i q1 q2 q3 q4 => ?_), hp, by omega⟩
    obtain ⟨q, e, _⟩ := h2.b2 hn hc (r := r) (i := i) ⟨by omega, q2⟩ ⟨by omega, q4⟩
    unfold clr red
    rw [if_pos ⟨q1, by omega⟩, if_neg (by omega), if_neg h3, e, Int.mul_tdiv_cancel_left q h3]
    grind
  · refine Or.inr ⟨h1, h2, fun r i q1 q2 => ?_⟩
    unfold clr red
    split
    · rw [if_pos (by omega), Int.natAbs_tmod]
      exact Nat.mod_lt _ h1
    · exact h3 r i q1 q2
theorem elS_go {p R C c : Nat} {s : Es} (hR : R ≤ 6) (hc : c < C) (h : GX p R C s.1 c s.2.1 s.2.2) : GX p R C (elS p R s c).1 (c + 1) (elS p R s c).2.1 (elS p R s c).2.2 := by
  unfold elS
  by_cases q : s.1 < R ∧ fpv s.2.2 c (R - s.1) s.1 < R
  · rw [if_pos q]
    have f1 := fpv_le s.2.2 c (R - s.1) s.1
    have nz := fpv_nz s.2.2 c (R - s.1) s.1 (by omega)
    refine (h.swp q.1 ⟨f1.1, q.2⟩).stp hR q.1 hc ?_
    show (if s.1 = s.1 then s.2.2 (fpv s.2.2 c (R - s.1) s.1) c else _) ≠ 0
    rw [if_pos rfl]
    exact nz
  · rw [if_neg q]
    exact h.col
theorem el_GX {p R C : Nat} {X0 : Mx} (hR : R ≤ 6) (h0 : GX p R C 0 0 1 X0) : ∀ c, c ≤ C → GX p R C (el p R X0 c).1 c (el p R X0 c).2.1 (el p R X0 c).2.2 ∧ (el p R X0 c).1 ≤ c
  | 0, _ => ⟨h0, Nat.le_refl _⟩
  | c + 1, hc => by
    obtain ⟨a1, a2⟩ := el_GX hR h0 c (by omega)
    refine ⟨elS_go hR (by omega) a1, ?_⟩
    show (elS p R (el p R X0 c) c).1 ≤ c + 1
    unfold elS
    split
    · show (el p R X0 c).1 + 1 ≤ c + 1; omega
    · omega
theorem el_R {p R : Nat} {X0 : Mx} : ∀ c, (el p R X0 c).1 ≤ R
  | 0 => Nat.zero_le _
  | c + 1 => by
    show (elS p R (el p R X0 c) c).1 ≤ R
    have := el_R (p := p) (R := R) (X0 := X0) c
    unfold elS
    split
    · rename_i q; show (el p R X0 c).1 + 1 ≤ R; omega
    · exact this
/-- once all rows are done nothing changes -/
theorem el_stop {p R : Nat} {X0 : Mx} {c : Nat} (h : R ≤ (el p R X0 c).1) : ∀ k, (el p R X0 (c + k)).1 = (el p R X0 c).1
  | 0 => rfl
  | k + 1 => by
    have ih := el_stop h k
    show (elS p R (el p R X0 (c + k)) (c + k)).1 = _
    unfold elS
    rw [if_neg (by omega)]
    exact ih
def X0 (T : Tab) (p : Nat) : Mx := fun r i => if tX T (6 * r + i) = 10 then 0 else if p = 0 then (tX T (6 * r + i) : Int) else ((tX T (6 * r + i) % p : Nat) : Int)
theorem GX_0 {T : Tab} (hT : TabOK T) {p : Nat} (hp : p ≤ 97) : GX p (tR T) (tC T) 0 0 1 (X0 T p) := by
  by_cases e : p = 0
  · refine Or.inl ⟨e, INV.ini (fun r i _ _ => ?_), by omega, by decide⟩
    have := hT.2.2.1 (6 * r + i)
    unfold X0
    by_cases q : tX T (6 * r + i) = 10
    · rw [if_pos q]; decide
    · rw [if_neg q, if_pos e]; omega
  · refine Or.inr ⟨by omega, hp, fun r i _ _ => ?_⟩
    unfold X0
    by_cases q : tX T (6 * r + i) = 10
    · rw [if_pos q]; show 0 < p; omega
    · rw [if_neg q, if_neg e]
      have := Nat.mod_lt (tX T (6 * r + i)) (show 0 < p by omega)
      omega
def rkT (T : Tab) (p : Nat) : Nat := (el p (tR T) (X0 T p) (tC T)).1
