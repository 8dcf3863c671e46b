/-! ===== the model's sets that fool: rows picked one behind another ===== -/
def PL (g : Nat → Int) : Nat → List Nat
  | 0 => []
  | r + 1 => if g r = -1 then PL g r else PL g r ++ [6 * r + (g r).toNat]
theorem PL_s (g : Nat → Int) (r : Nat) : PL g (r + 1) = if g r = -1 then PL g r else PL g r ++ [6 * r + (g r).toNat] := rfl
theorem PL_len (g : Nat → Int) : ∀ r, (PL g r).length ≤ r
  | 0 => Nat.le_refl _
  | r + 1 => by
    have h := PL_len g r
    rw [PL_s]
    split
    · omega
    · rw [List.length_append]; show _ + 1 ≤ _; omega
theorem PL_congr {g h : Nat → Int} : ∀ {r : Nat}, (∀ s, s < r → g s = h s) → PL g r = PL h r
  | 0, _ => rfl
  | r + 1, q => by rw [PL_s, PL_s, PL_congr (r := r) (fun s hs => q s (by omega)), q r (by omega)]
theorem PL_mono (g : Nat → Int) (r : Nat) : ∀ n, (PL g r).length ≤ (PL g (r + n)).length
  | 0 => Nat.le_refl _
  | n + 1 => by
    have h := PL_mono g r n
    show _ ≤ (PL g (r + n + 1)).length
    rw [PL_s]
    split
    · exact h
    · rw [List.length_append]; omega
theorem PL_36 {g : Nat → Int} : ∀ {r : Nat}, r ≤ 6 → (∀ s, s < r → g s < 6) → ∀ x, x ∈ PL g r → x < 36
  | 0, _, _, x, hx => by cases hx
  | r + 1, hr, h, x, hx => by
    have h1 := h r (by omega)
    rw [PL_s] at hx
    split at hx
    · exact PL_36 (r := r) (by omega) (fun s hs => h s (by omega)) x hx
    · rw [List.mem_append, List.mem_singleton] at hx
      rcases hx with q | q
      · exact PL_36 (r := r) (by omega) (fun s hs => h s (by omega)) x q
      · omega
def cnt (V : List (List Nat)) (n : Nat) : Nat := (V.filter (fun q => q.length == n)).length
theorem cnt_app (V W : List (List Nat)) (n : Nat) : cnt (V ++ W) n = cnt V n + cnt W n := by
  unfold cnt; rw [List.filter_append, List.length_append]
theorem cnt_one (P : List Nat) (n : Nat) : cnt [P] n = if P.length = n then 1 else 0 := by
  unfold cnt
  by_cases h : P.length = n
  · rw [if_pos h]; simp [h]
  · rw [if_neg h]; simp [h]
theorem lx_trans : ∀ {a b c : List Nat}, lx a b → lx b c → lx a c
  | [], _, _, _, _ => trivial
  | _ :: _, [], _, h, _ => False.elim h
  | _ :: _, _ :: _, [], _, h => False.elim h
  | x :: a, y :: b, z :: c, h, k => by
    have h : x < y ∨ (x = y ∧ lx a b) := h
    have k : y < z ∨ (y = z ∧ lx b c) := k
    show x < z ∨ (x = z ∧ lx a c)
    rcases h with h | ⟨h, h'⟩
    · left; rcases k with k | ⟨k, _⟩ <;> omega
    · rcases k with k | ⟨k, k'⟩
      · left; omega
      · right; exact ⟨by omega, lx_trans h' k'⟩
def ltx (P X : List Nat) : Prop := ∃ j a b, P.take j = X.take j ∧ P[j]? = some a ∧ X[j]? = some b ∧ a < b
theorem ltx_lx : ∀ {P X : List Nat}, ltx P X → lx P X
  | [], _, _ => trivial
  | _ :: _, [], ⟨j, a, b, _, _, h, _⟩ => by simp at h
  | x :: P, y :: X, ⟨0, a, b, _, h1, h2, h3⟩ => by
    have h1 : x = a := by simpa using h1
    have h2 : y = b := by simpa using h2
    exact Or.inl (by omega)
  | x :: P, y :: X, ⟨j + 1, a, b, h, h1, h2, h3⟩ => by
    rw [List.take_succ_cons, List.take_succ_cons, List.cons.injEq] at h
    rw [List.getElem?_cons_succ] at h1 h2
    exact Or.inr ⟨h.1, ltx_lx ⟨j, a, b, h.2, h1, h2, h3⟩⟩
theorem ltx_app {P X : List Nat} (h : ltx P X) (Z : List Nat) : ltx (P ++ Z) X := by
  obtain ⟨j, a, b, h1, h2, h3, h4⟩ := h
  have hj := (List.getElem?_eq_some_iff.mp h2).1
  refine ⟨j, a, b, ?_, ?_, h3, h4⟩
  · rw [List.take_append_of_le_length (by omega)]; exact h1
  · rw [List.getElem?_append_left hj]; exact h2
theorem ltx_app' {P X : List Nat} (h : ltx X P) (Z : List Nat) : ltx X (P ++ Z) := by
  obtain ⟨j, a, b, h1, h2, h3, h4⟩ := h
  have hj := (List.getElem?_eq_some_iff.mp h3).1
  refine ⟨j, a, b, ?_, h2, ?_, h4⟩
  · rw [List.take_append_of_le_length (by omega)]; exact h1
  · rw [List.getElem?_append_left hj]; exact h3
theorem ltx_PL {g : Nat → Int} {X : List Nat} (r : Nat) : ∀ n, (ltx (PL g r) X → ltx (PL g (r + n)) X) ∧ (ltx X (PL g r) → ltx X (PL g (r + n)))
  | 0 => ⟨id, id⟩
  | n + 1 => by
    obtain ⟨h1, h2⟩ := ltx_PL (g := g) (X := X) r n
    show (_ → ltx (PL g (r + n + 1)) X) ∧ (_ → ltx X (PL g (r + n + 1)))
    rw [PL_s]
    split
    · exact ⟨h1, h2⟩
    · exact ⟨fun h => ltx_app (h1 h) _, fun h => ltx_app' (h2 h) _⟩
def BestV (V : List (List Nat)) (X : List Nat) : Prop := (X = [] ∨ X ∈ V) ∧ ∀ q, q ∈ V → q.length ≤ X.length ∧ (q.length = X.length → lx X q)
theorem BestV_old {V : List (List Nat)} {X P : List Nat} (h : BestV V X) (h1 : P.length ≤ X.length) (h2 : P.length = X.length → lx X P) : BestV (V ++ [P]) X := by
  refine ⟨?_, fun q hq => ?_⟩
  · rcases h.1 with q | q
    · exact Or.inl q
    · exact Or.inr (List.mem_append_left _ q)
  · rw [List.mem_append, List.mem_singleton] at hq
    rcases hq with q | q
    · exact h.2 _ q
    · subst q; exact ⟨h1, h2⟩
theorem BestV_new {V : List (List Nat)} {X P : List Nat} (h : BestV V X) (h1 : X.length ≤ P.length) (h2 : P.length = X.length → lx P X) : BestV (V ++ [P]) P := by
  refine ⟨Or.inr (by simp), fun q hq => ?_⟩
  rw [List.mem_append, List.mem_singleton] at hq
  rcases hq with q | q
  · have := h.2 _ q
    exact ⟨by omega, fun e => lx_trans (h2 (by omega)) (this.2 (by omega))⟩
  · subst q; exact ⟨Nat.le_refl _, fun _ => lx_refl _⟩
/-! ===== all of them, row by row ===== -/
def okP (T : Tab) (v : Nat) (P : List Nat) (x : Nat) : Bool := P.all (fun p => fo T v p x)
def EN (T : Tab) (v : Nat) : Nat → List Nat → List (List Nat)
  | 0 => fun P => [P]
  | k + 1 => fun P => EN T v k P ++ ((frow T v (tR T - (k + 1)) (tC T)).filter (okP T v P)).flatMap (fun x => EN T v k (P ++ [x]))
theorem EN_s (T : Tab) (v k : Nat) (P : List Nat) : EN T v (k + 1) P = EN T v k P ++ ((frow T v (tR T - (k + 1)) (tC T)).filter (okP T v P)).flatMap (fun x => EN T v k (P ++ [x])) := rfl
def enf (T : Tab) (v r : Nat) (F : List Nat → List (List Nat)) (P : List Nat) : Nat → Nat → List (List Nat)
  | 0, _ => []
  | m + 1, c => (if tX T (6 * r + c) == v && okP T v P (6 * r + c) then F (P ++ [6 * r + c]) else []) ++ enf T v r F P m (c + 1)
theorem enf_s (T : Tab) (v r : Nat) (F : List Nat → List (List Nat)) (P : List Nat) (m c : Nat) : enf T v r F P (m + 1) c = (if tX T (6 * r + c) == v && okP T v P (6 * r + c) then F (P ++ [6 * r + c]) else []) ++ enf T v r F P m (c + 1) := rfl
theorem enf_end (T : Tab) (v r : Nat) (F : List Nat → List (List Nat)) (P : List Nat) : ∀ m c, enf T v r F P (m + 1) c = enf T v r F P m c ++ (if tX T (6 * r + (c + m)) == v && okP T v P (6 * r + (c + m)) then F (P ++ [6 * r + (c + m)]) else [])
  | 0, c => by rw [enf_s]; show _ ++ [] = [] ++ _; rw [List.append_nil, List.nil_append, Nat.add_zero]
  | m + 1, c => by
    rw [enf_s, enf_end T v r F P m (c + 1), enf_s T v r F P m c, List.append_assoc, show c + 1 + m = c + (m + 1) by omega]
theorem enf_eq (T : Tab) (v r : Nat) (F : List Nat → List (List Nat)) (P : List Nat) : ∀ n, enf T v r F P n 0 = ((frow T v r n).filter (okP T v P)).flatMap (fun x => F (P ++ [x]))
  | 0 => rfl
  | n + 1 => by
    rw [enf_end, enf_eq T v r F P n, frow_s, Nat.zero_add]
    cases h : tX T (6 * r + n) == v with
    | false => simp
    | true =>
      rw [if_pos rfl, List.filter_append, List.flatMap_append]
      cases h2 : okP T v P (6 * r + n) with
      | false => simp [h2]
      | true => simp [h2]
/-- the cells of the last k rows -/
def fd (T : Tab) (v : Nat) : Nat → List Nat
  | 0 => []
  | k + 1 => frow T v (tR T - (k + 1)) (tC T) ++ fd T v k
theorem fd_s (T : Tab) (v k : Nat) : fd T v (k + 1) = frow T v (tR T - (k + 1)) (tC T) ++ fd T v k := rfl
theorem fa_fd (T : Tab) (v : Nat) : ∀ k, k ≤ tR T → fa T v (tR T - k) ++ fd T v k = fc T v
  | 0, _ => by show fa T v (tR T - 0) ++ [] = _; rw [List.append_nil, Nat.sub_zero]; rfl
  | k + 1, h => by
    have ih := fa_fd T v k (by omega)
    rw [fd_s, ← List.append_assoc, ← ih]
    congr 1
    rw [show tR T - k = tR T - (k + 1) + 1 by omega]
    rfl
theorem fd_all (T : Tab) (v : Nat) : fd T v (tR T) = fc T v := by
  have := fa_fd T v (tR T) (Nat.le_refl _)
  rw [Nat.sub_self] at this
  exact this
theorem IsK_row {f : Nat → Nat → Bool} {l : List Nat} : ∀ {xs : List Nat}, (∀ x, x ∈ xs → ∀ y, y ∈ xs → f x y = false) → ∀ q, (IsK f (xs ++ l) q ↔ (IsK f l q ∨ ∃ x, x ∈ xs ∧ ∃ q', q = x :: q' ∧ IsK f (l.filter (f x)) q'))
  | [], _, q => by
    constructor
    · intro h; exact Or.inl h
    · rintro (h | ⟨x, hx, _⟩)
      · exact h
      · cases hx
  | x :: xs, h, q => by
    have ih := IsK_row (f := f) (l := l) (xs := xs) (fun a ha b hb => h a (List.mem_cons_of_mem x ha) b (List.mem_cons_of_mem x hb)) q
    have e : (xs ++ l).filter (f x) = l.filter (f x) := by
      rw [List.filter_append, List.filter_eq_nil_iff.mpr (fun y hy => by rw [h x (List.mem_cons_self ..) y (List.mem_cons_of_mem x hy)]; simp), List.nil_append]
    rw [List.cons_append, IsK_cons, ih, e]
    constructor
    · rintro ((a | ⟨y, hy, a⟩) | a)
      · exact Or.inl a
      · exact Or.inr ⟨y, List.mem_cons_of_mem x hy, a⟩
      · exact Or.inr ⟨x, List.mem_cons_self .., a⟩
    · rintro (a | ⟨y, hy, a⟩)
      · exact Or.inl (Or.inl a)
      · rcases List.mem_cons.mp hy with e | e
        · subst e; exact Or.inr a
        · exact Or.inl (Or.inr ⟨y, e, a⟩)
theorem CC_row {f : Nat → Nat → Bool} {l : List Nat} {n : Nat} : ∀ {xs : List Nat}, (∀ x, x ∈ xs → ∀ y, y ∈ xs → f x y = false) → CC f (n + 1) (xs ++ l) = (xs.map (fun x => CC f n (l.filter (f x)))).sum + CC f (n + 1) l
  | [], _ => by simp
  | x :: xs, h => by
    have ih := CC_row (f := f) (l := l) (n := n) (xs := xs) (fun a ha b hb => h a (List.mem_cons_of_mem x ha) b (List.mem_cons_of_mem x hb))
    have e : (xs ++ l).filter (f x) = l.filter (f x) := by
      rw [List.filter_append, List.filter_eq_nil_iff.mpr (fun y hy => by rw [h x (List.mem_cons_self ..) y (List.mem_cons_of_mem x hy)]; simp), List.nil_append]
    show CC f n ((xs ++ l).filter (f x)) + CC f (n + 1) (xs ++ l) = _
    rw [ih, e, List.map_cons, List.sum_cons]; omega
theorem frow_no {T : Tab} (hT : TabOK T) (v r : Nat) (P : List Nat) : ∀ x, x ∈ (frow T v r (tC T)).filter (okP T v P) → ∀ y, y ∈ (frow T v r (tC T)).filter (okP T v P) → fo T v x y = false := fun x hx y hy => by
  have hC := hT.2.1
  have h1 := (frow_mem T v r x (tC T) (by omega)).mp (List.mem_filter.mp hx).1
  have h2 := (frow_mem T v r y (tC T) (by omega)).mp (List.mem_filter.mp hy).1
  cases h : fo T v x y with
  | false => rfl
  | true => exact absurd (by omega) (fo_row h1.2.2 h2.2.2 h)
theorem okP_app (T : Tab) (v : Nat) (P : List Nat) (x : Nat) (l : List Nat) : (l.filter (okP T v P)).filter (fo T v x) = l.filter (okP T v (P ++ [x])) := by
  rw [List.filter_filter]
  congr 1
  funext y
  unfold okP
  rw [List.all_append]
  simp [Bool.and_comm]
theorem EN_mem {T : Tab} (hT : TabOK T) (v : Nat) : ∀ (k : Nat) (P q : List Nat), (q ∈ EN T v k P ↔ ∃ q', q = P ++ q' ∧ IsK (fo T v) ((fd T v k).filter (okP T v P)) q')
  | 0, P, q => by
    show q ∈ [P] ↔ _
    rw [List.mem_singleton]
    constructor
    · intro h; exact ⟨[], by rw [List.append_nil]; exact h, IsK_nil _ _⟩
    · rintro ⟨q', rfl, h⟩
      rw [IsK_e h, List.append_nil]
  | k + 1, P, q => by
    rw [EN_s, List.mem_append, EN_mem hT v k P q, List.mem_flatMap, fd_s, List.filter_append]
    constructor
    · rintro (⟨q', e, h⟩ | ⟨x, hx, h⟩)
      · exact ⟨q', e, (IsK_row (frow_no hT v _ P) q').mpr (Or.inl h)⟩
      · obtain ⟨q', e, h⟩ := (EN_mem hT v k (P ++ [x]) q).mp h
        refine ⟨x :: q', by rw [e, List.append_assoc]; rfl, (IsK_row (frow_no hT v _ P) _).mpr (Or.inr ⟨x, hx, q', rfl, ?_⟩)⟩
        rw [okP_app]; exact h
    · rintro ⟨q', e, h⟩
      rcases (IsK_row (frow_no hT v _ P) q').mp h with h | ⟨x, hx, q2, e2, h⟩
      · exact Or.inl ⟨q', e, h⟩
      · refine Or.inr ⟨x, hx, (EN_mem hT v k (P ++ [x]) q).mpr ⟨q2, by rw [e, e2, List.append_assoc]; rfl, ?_⟩⟩
        rw [← okP_app]; exact h
theorem cnt_flat {α : Type} (F : α → List (List Nat)) (n : Nat) : ∀ l : List α, cnt (l.flatMap F) n = (l.map (fun x => cnt (F x) n)).sum
  | [] => rfl
  | x :: l => by rw [List.flatMap_cons, cnt_app, cnt_flat F n l, List.map_cons, List.sum_cons]
theorem EN_cnt {T : Tab} (hT : TabOK T) (v : Nat) : ∀ (k n : Nat) (P : List Nat), cnt (EN T v k P) (P.length + n) = CC (fo T v) n ((fd T v k).filter (okP T v P))
  | 0, 0, P => by show cnt [P] _ = 1; rw [cnt_one, if_pos (by omega)]
  | 0, n + 1, P => by show cnt [P] _ = 0; rw [cnt_one, if_neg (by omega)]
  | k + 1, 0, P => by
    rw [EN_s, cnt_app, EN_cnt hT v k 0 P, cnt_flat]
    show 1 + _ = 1
    rw [show ((frow T v (tR T - (k + 1)) (tC T)).filter (okP T v P)).map (fun x => cnt (EN T v k (P ++ [x])) (P.length + 0)) = ((frow T v (tR T - (k + 1)) (tC T)).filter (okP T v P)).map (fun _ => 0) from List.map_congr_left (fun x _ => ?_)]
    · have : ∀ l : List Nat, (l.map (fun _ => 0)).sum = 0 := fun l => by induction l with
        | nil => rfl
        | cons a l ih => rw [List.map_cons, List.sum_cons, ih]
      rw [this]
    · unfold cnt
      rw [List.length_eq_zero_iff, List.filter_eq_nil_iff]
      intro q hq
      obtain ⟨q', e, -⟩ := (EN_mem hT v k (P ++ [x]) q).mp hq
      rw [e, List.length_append, List.length_append]
      show ¬ ((P.length + 1 + q'.length == P.length + 0) = true)
      rw [beq_iff_eq]; omega
  | k + 1, n + 1, P => by
    rw [EN_s, cnt_app, EN_cnt hT v k (n + 1) P, cnt_flat, fd_s, List.filter_append, CC_row (frow_no hT v _ P), Nat.add_comm]
    congr 2
    refine List.map_congr_left (fun x _ => ?_)
    rw [okP_app, ← EN_cnt hT v k n (P ++ [x]), List.length_append]
    show cnt _ (P.length + (n + 1)) = cnt _ (P.length + 1 + n)
    rw [show P.length + (n + 1) = P.length + 1 + n by omega]
theorem okP_nil (T : Tab) (v : Nat) (l : List Nat) : l.filter (okP T v []) = l := List.filter_eq_self.mpr (fun _ _ => rfl)
theorem EN_best {T : Tab} (hT : TabOK T) {v : Nat} {X : List Nat} (h : BestV (EN T v (tR T) []) X) : X = bK T v := by
  have hm : ∀ q, q ∈ EN T v (tR T) [] ↔ IsK (fo T v) (fc T v) q := fun q => by
    rw [EN_mem hT, okP_nil, fd_all]
    constructor
    · rintro ⟨q', rfl, h⟩; exact h
    · intro h; exact ⟨q, rfl, h⟩
  refine bK_eq ⟨?_, fun q hq => h.2 q ((hm q).mpr hq)⟩
  rcases h.1 with q | q
  · rw [q]; exact IsK_nil _ _
  · exact (hm X).mp q
theorem EN_all {T : Tab} (hT : TabOK T) (v n : Nat) : cnt (EN T v (tR T) []) n = CC (fo T v) n (fc T v) := by
  have := EN_cnt hT v (tR T) n []
  rw [okP_nil, fd_all] at this
  rw [← this]
  show _ = cnt _ (0 + n)
  rw [Nat.zero_add]
