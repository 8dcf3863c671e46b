/-! ===== the best tree, node by node ===== -/
def fpk (P : Nat → Bool) : Nat → Nat → Nat
  | 0, _ => 0
  | k + 1, q => if P q then q else fpk P k (q + 1)
theorem fpk_eq {P : Nat → Bool} : ∀ {k q p : Nat}, q ≤ p → p < q + k → P p = true → (∀ j, q ≤ j → j < p → P j = false) → fpk P k q = p
  | 0, q, p, h1, h2, _, _ => by omega
  | k + 1, q, p, h1, h2, h3, h4 => by
    show (if P q then q else fpk P k (q + 1)) = p
    by_cases e : q = p
    · rw [e, if_pos h3]
    · rw [if_neg (by rw [h4 q (Nat.le_refl _) (by omega)]; simp)]
      exact fpk_eq (by omega) (by omega) h3 (fun j a b => h4 j (by omega) b)
def pk (b : Nat) (g : Nat → Nat) (s : Nat) : Nat := fpk (fun q => spC s q && (spF b g s q == spl b g s)) s 0
theorem IsPk.eq {b : Nat} {g : Nat → Nat} {s p : Nat} (h : IsPk b g s p) (he : ∃ q, q < s ∧ spC s q = true ∧ spF b g s q ≤ 1000000) : p = pk b g s ∧ p < s ∧ spC s p = true ∧ spF b g s p = spl b g s := by
  obtain ⟨h1, h2, h3, h4⟩ := h he
  refine ⟨(fpk_eq (Nat.zero_le _) (by omega) (by rw [h2, h3]; simp) (fun j _ hj => ?_)).symm, h1, h2, h3⟩
  cases q : spC s j with
  | false => simp
  | true =>
    have := h4 j hj q
    simp; omega
theorem spl_ex {b : Nat} {g : Nat → Nat} {s : Nat} (h : spl b g s < 1000000) : ∃ q, q < s ∧ spC s q = true ∧ spF b g s q ≤ 1000000 := by
  rcases mn_ex (spC s) (spF b g s) s with e | ⟨q, h1, h2, h3⟩
  · have : spl b g s = 1000000 := e
    omega
  · exact ⟨q, h1, h2, by have : spl b g s = spF b g s q := h3; omega⟩
/-- A's worth and B's of an area -/
def wA (T : Tab) (h rs cs : Nat) : Nat := spl (sb h) (fun q => BW T h q cs) rs + prc T h (tA T) rs cs
def wB (T : Tab) (h rs cs : Nat) : Nat := spl (sb h) (fun q => BW T h rs q) cs + prc T h (tB T) rs cs
def pA (T : Tab) (h rs cs : Nat) : Nat := pk (sb h) (fun q => BW T h q cs) rs
def pB' (T : Tab) (h rs cs : Nat) : Nat := pk (sb h) (fun q => BW T h rs q) cs
def lfv (T : Tab) (rs cs : Nat) : Nat := if vIn T rs cs = 0 then 0 else fstb (vIn T rs cs)
abbrev Nd : Type := Nat × Nat × Int
def gt (T : Tab) (h : Nat) : Nat → Nat → Nat → Nat → List Nd
  | 0 => fun _ _ _ => []
  | n + 1 => fun rs cs k => if pop (vIn T rs cs) < 2 then [(0, lfv T rs cs, -1)] else if wA T h rs cs ≤ wB T h rs cs then (1, pA T h rs cs, ((k + 1 + (gt T h n (pA T h rs cs) cs (k + 1)).length : Nat) : Int)) :: (gt T h n (pA T h rs cs) cs (k + 1) ++ gt T h n (rs - pA T h rs cs) cs (k + 1 + (gt T h n (pA T h rs cs) cs (k + 1)).length)) else (2, pB' T h rs cs, ((k + 1 + (gt T h n rs (pB' T h rs cs) (k + 1)).length : Nat) : Int)) :: (gt T h n rs (pB' T h rs cs) (k + 1) ++ gt T h n rs (cs - pB' T h rs cs) (k + 1 + (gt T h n rs (pB' T h rs cs) (k + 1)).length))
theorem gt_leaf {T : Tab} {h n rs cs k : Nat} (hal : pop (vIn T rs cs) < 2) : gt T h (n + 1) rs cs k = [(0, lfv T rs cs, -1)] := by
  show (if _ then _ else _) = _
  rw [if_pos hal]
theorem gt_A {T : Tab} {h n rs cs k : Nat} (hal : ¬ pop (vIn T rs cs) < 2) (hw : wA T h rs cs ≤ wB T h rs cs) : gt T h (n + 1) rs cs k = (1, pA T h rs cs, ((k + 1 + (gt T h n (pA T h rs cs) cs (k + 1)).length : Nat) : Int)) :: (gt T h n (pA T h rs cs) cs (k + 1) ++ gt T h n (rs - pA T h rs cs) cs (k + 1 + (gt T h n (pA T h rs cs) cs (k + 1)).length)) := by
  show (if _ then _ else if _ then _ else _) = _
  rw [if_neg hal, if_pos hw]
theorem gt_B {T : Tab} {h n rs cs k : Nat} (hal : ¬ pop (vIn T rs cs) < 2) (hw : ¬ wA T h rs cs ≤ wB T h rs cs) : gt T h (n + 1) rs cs k = (2, pB' T h rs cs, ((k + 1 + (gt T h n rs (pB' T h rs cs) (k + 1)).length : Nat) : Int)) :: (gt T h n rs (pB' T h rs cs) (k + 1) ++ gt T h n rs (cs - pB' T h rs cs) (k + 1 + (gt T h n rs (pB' T h rs cs) (k + 1)).length)) := by
  show (if _ then _ else if _ then _ else _) = _
  rw [if_neg hal, if_neg hw]
/-- the pick of the one who talks: a part with the lowest member, not all -/
theorem pick_A {T : Tab} (hT : TabOK T) {h rs cs : Nat} (hi : inT T rs cs) (hal : ¬ pop (vIn T rs cs) < 2) (hw : wA T h rs cs ≤ wB T h rs cs) : ∃ q, q < rs ∧ spC rs q = true ∧ spF (sb h) (fun q => BW T h q cs) rs q ≤ 1000000 := by
  obtain ⟨h1, h2⟩ := hi.r hT
  have bs := BW_small hT h hi.1 hi.2.1 hi.2.2.1 hi.2.2.2
  rw [BW_s T h h1 h2 hi.1 hi.2.2.1, if_neg hal] at bs
  refine spl_ex ?_
  unfold wA wB at hw
  omega
theorem pick_B {T : Tab} (hT : TabOK T) {h rs cs : Nat} (hi : inT T rs cs) (hal : ¬ pop (vIn T rs cs) < 2) (hw : ¬ wA T h rs cs ≤ wB T h rs cs) : ∃ q, q < cs ∧ spC cs q = true ∧ spF (sb h) (fun q => BW T h rs q) cs q ≤ 1000000 := by
  obtain ⟨h1, h2⟩ := hi.r hT
  have bs := BW_small hT h hi.1 hi.2.1 hi.2.2.1 hi.2.2.2
  rw [BW_s T h h1 h2 hi.1 hi.2.2.1, if_neg hal] at bs
  refine spl_ex ?_
  unfold wA wB at hw
  omega
/-- there is a pick -/
theorem pk_is {b : Nat} {g : Nat → Nat} : ∀ {s : Nat}, (∃ q, q < s ∧ spC s q = true ∧ spF b g s q ≤ 1000000) → pk b g s < s ∧ spC s (pk b g s) = true ∧ spF b g s (pk b g s) = spl b g s ∧ ∀ q, q < pk b g s → spC s q = true → spF b g s q ≠ spl b g s := by
  intro s he
  have h0 : ∃ q, q < s ∧ (spC s q && (spF b g s q == spl b g s)) = true := by
    rcases mn_ex (spC s) (spF b g s) s with e | ⟨q, h1, h2, h3⟩
    · obtain ⟨q, a1, a2, a3⟩ := he
      have := mn_le (spC s) (spF b g s) s q a1 a2
      have e' : spl b g s = 1000000 := e
      refine ⟨q, a1, ?_⟩
      rw [a2, Bool.true_and, beq_iff_eq, e']
      have : spl b g s ≤ spF b g s q := this
      omega
    · have e' : spl b g s = spF b g s q := h3
      exact ⟨q, h1, by rw [h2, Bool.true_and, beq_iff_eq, e']⟩
  have key : ∀ (k q : Nat) (P : Nat → Bool), (∃ p, q ≤ p ∧ p < q + k ∧ P p = true) → q ≤ fpk P k q ∧ fpk P k q < q + k ∧ P (fpk P k q) = true ∧ ∀ j, q ≤ j → j < fpk P k q → P j = false := by
    intro k
    induction k with
    | zero => rintro q P ⟨p, a1, a2, _⟩; omega
    | succ k ih =>
      rintro q P ⟨p, a1, a2, a3⟩
      by_cases e : P q = true
      · have f : fpk P (k + 1) q = q := by show (if _ then _ else _) = _; rw [if_pos e]
        rw [f]
        exact ⟨Nat.le_refl _, by omega, e, fun j b1 b2 => by omega⟩
      · have f : fpk P (k + 1) q = fpk P k (q + 1) := by show (if _ then _ else _) = _; rw [if_neg e]
        have pne : p ≠ q := fun z => e (by rw [← z]; exact a3)
        obtain ⟨b1, b2, b3, b4⟩ := ih (q + 1) P ⟨p, by omega, by omega, a3⟩
        rw [f]
        refine ⟨by omega, by omega, b3, fun j c1 c2 => ?_⟩
        by_cases z : j = q
        · rw [z]; exact Bool.eq_false_iff.mpr e
        · exact b4 j (by omega) c2
  obtain ⟨p, a1, a2⟩ := h0
  obtain ⟨b1, b2, b3, b4⟩ := key s 0 (fun q => spC s q && (spF b g s q == spl b g s)) ⟨p, Nat.zero_le _, by omega, a2⟩
  replace b3 : (spC s (pk b g s) && (spF b g s (pk b g s) == spl b g s)) = true := b3
  replace b4 : ∀ j, 0 ≤ j → j < pk b g s → (spC s j && (spF b g s j == spl b g s)) = false := b4
  replace b2 : pk b g s < 0 + s := b2
  rw [Bool.and_eq_true, beq_iff_eq] at b3
  refine ⟨by omega, b3.1, b3.2, fun q c1 c2 c3 => ?_⟩
  have := b4 q (Nat.zero_le _) c1
  rw [c2, c3] at this
  simp at this
theorem gt_len {T : Tab} (hT : TabOK T) (h : Nat) : ∀ n rs cs k, inT T rs cs → (gt T h n rs cs k).length + 1 ≤ 2 * (pop rs * pop cs)
  | 0, rs, cs, k, hi => by
    obtain ⟨h1, h2⟩ := hi.r hT
    have popp : ∀ s : Fin 64, (s : Nat) ≠ 0 → 1 ≤ pop (s : Nat) := by decide +kernel
    have r1 : 1 ≤ pop rs := popp ⟨rs, h1⟩ (by have := hi.1; show rs ≠ 0; omega)
    have c1 : 1 ≤ pop cs := popp ⟨cs, h2⟩ (by have := hi.2.2.1; show cs ≠ 0; omega)
    have : 1 ≤ pop rs * pop cs := Nat.mul_le_mul r1 c1
    show 0 + 1 ≤ _
    omega
  | n + 1, rs, cs, k, hi => by
    obtain ⟨h1, h2⟩ := hi.r hT
    by_cases hal : pop (vIn T rs cs) < 2
    · have popp : ∀ s : Fin 64, (s : Nat) ≠ 0 → 1 ≤ pop (s : Nat) := by decide +kernel
      have r1 : 1 ≤ pop rs := popp ⟨rs, h1⟩ (by have := hi.1; show rs ≠ 0; omega)
      have c1 : 1 ≤ pop cs := popp ⟨cs, h2⟩ (by have := hi.2.2.1; show cs ≠ 0; omega)
      have : 1 ≤ pop rs * pop cs := Nat.mul_le_mul r1 c1
      rw [gt_leaf hal]
      show 1 + 1 ≤ _
      omega
    · by_cases hw : wA T h rs cs ≤ wB T h rs cs
      · rw [gt_A hal hw]
        obtain ⟨p1, p2, -⟩ := pk_is (pick_A hT hi hal hw)
        obtain ⟨c1, c2, -, -, c5, -⟩ := spC_s h1 (by have := hi.1; omega) p1 p2
        have b1 := gt_len hT h n (pA T h rs cs) cs (k + 1) ⟨c1, by have := hi.2.1; unfold pA; omega, hi.2.2.1, hi.2.2.2⟩
        have b2 := gt_len hT h n (rs - pA T h rs cs) cs (k + 1 + (gt T h n (pA T h rs cs) cs (k + 1)).length) ⟨c2, by have := hi.2.1; omega, hi.2.2.1, hi.2.2.2⟩
        have b3 : pop rs * pop cs = pop (pA T h rs cs) * pop cs + pop (rs - pA T h rs cs) * pop cs := by rw [← Nat.add_mul]; unfold pA; rw [c5]
        rw [List.length_cons, List.length_append]
        omega
      · rw [gt_B hal hw]
        obtain ⟨p1, p2, -⟩ := pk_is (pick_B hT hi hal hw)
        obtain ⟨c1, c2, -, -, c5, -⟩ := spC_s h2 (by have := hi.2.2.1; omega) p1 p2
        have b1 := gt_len hT h n rs (pB' T h rs cs) (k + 1) ⟨hi.1, hi.2.1, c1, by have := hi.2.2.2; unfold pB'; omega⟩
        have b2 := gt_len hT h n rs (cs - pB' T h rs cs) (k + 1 + (gt T h n rs (pB' T h rs cs) (k + 1)).length) ⟨hi.1, hi.2.1, c2, by have := hi.2.2.2; omega⟩
        have b3 : pop rs * pop cs = pop rs * pop (pB' T h rs cs) + pop rs * pop (cs - pB' T h rs cs) := by rw [← Nat.mul_add]; unfold pB'; rw [c5]
        rw [List.length_cons, List.length_append]
        omega
/-- nodes in three arrays -/
def NdL (M : pm_M) (a b c : Nat) (L : List Nd) : Prop := ∀ (i : Nat) (x : Nd), L[i]? = some x → pm_ct M a i = (x.1 : Int) ∧ pm_ct M b i = (x.2.1 : Int) ∧ pm_ct M c i = x.2.2
def GT (T : Tab) (h : Nat) : List Nd := gt T h 12 (2 ^ tR T - 1) (2 ^ tC T - 1) 0
def sNode (T : Tab) (h k w : Int) : Int := if h < 0 ∨ 2 < h then -1 else if k = -1 then ((GT T h.toNat).length : Int) else if k < 0 ∨ ((GT T h.toNat).length : Int) ≤ k then -1 else if w = 0 then (((GT T h.toNat).getD k.toNat (0, 0, 0)).1 : Int) else if w = 1 then (((GT T h.toNat).getD k.toNat (0, 0, 0)).2.1 : Int) else if w = 2 then ((GT T h.toNat).getD k.toNat (0, 0, 0)).2.2 else -1
