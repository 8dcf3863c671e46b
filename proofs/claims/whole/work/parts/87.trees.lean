/-! ===== leaves and entries; sums and greatest ones over both ===== -/
theorem wy_z {L : List Nd} {r c k : Nat} (h : (ndA L k).1 = 0) : ∀ n, wy L r c n k = k
  | 0 => rfl
  | n + 1 => by show (if (ndA L k).1 = 0 then k else _) = k; rw [if_pos h]
theorem wc_z {T : Tab} {L : List Nd} {r c k : Nat} (h : (ndA L k).1 = 0) : ∀ n, wc T L r c n k = 0
  | 0 => rfl
  | n + 1 => by show (if (ndA L k).1 = 0 then 0 else _) = 0; rw [if_pos h]
theorem wt_z {L : List Nd} {r c k q : Nat} (h : (ndA L k).1 = 0) : ∀ n, wt L r c n k q = 0
  | 0 => rfl
  | n + 1 => by show (if (ndA L k).1 = 0 then 0 else _) = 0; rw [if_pos h]
section TR
variable {T : Tab} {L : List Nd} {p dp : Nat → Nat}
theorem leaf_at (hT : TabOK T) (hD : TrD L dp) (h : PaOK L p) {r c : Nat} (hr : r < tR T) (hc : c < tC T) : wy L r c 9 0 < L.length ∧ (ndA L (wy L r c 9 0)).1 = 0 ∧ cmIn (CM T L p (wy L r c 9 0)) r c = true ∧ (CM T L p (wy L r c 9 0)).2.2.1 = wl L r c 9 0 ∧ (CM T L p (wy L r c 9 0)).2.2.2.1 = wc T L r c 9 0 ∧ (CM T L p (wy L r c 9 0)).2.2.2.2.1 = wt L r c 9 0 0 ∧ wy L r c 9 0 = wn L r c (wl L r c 9 0) := by
  obtain ⟨a1, a2, a3, a4⟩ := way_in hT hD h hr hc _ (Nat.le_refl _)
  obtain ⟨_, w2, w3, _⟩ := wn_in hD (r := r) (c := c) _ (Nat.le_refl _)
  have e := wn_end hD (r := r) (c := c)
  rw [wc_z e] at a2
  rw [wt_z e] at a3
  rw [wy_z e] at a4
  rw [a4]
  obtain ⟨_, _, b3, _, _, _⟩ := CM_bd hT hD h _ _ (Nat.lt_succ_self _) w2
  refine ⟨w2, e, a1, by rw [b3, w3], by omega, by omega, rfl⟩
theorem leaf_un (hT : TabOK T) (hD : TrD L dp) (h : PaOK L p) {r c k : Nat} (hr : r < tR T) (hc : c < tC T) (hk : k < L.length) (h0 : (ndA L k).1 = 0) (hi : cmIn (CM T L p k) r c = true) : k = wy L r c 9 0 := by
  obtain ⟨a1, a2⟩ := in_way hT hD h hr hc _ _ (Nat.lt_succ_self _) hk hi
  have e : dp k = wl L r c 9 0 := by
    refine Classical.byContradiction (fun q => ?_)
    have := wn_go hD (r := r) (c := c) (i := dp k) (by omega)
    rw [a1] at this
    exact this h0
  rw [(leaf_at hT hD h hr hc).2.2.2.2.2.2, ← e, a1]
theorem bit_ex {s n : Nat} (hs : s < 64) (hn : s < 2 ^ n) (h0 : s ≠ 0) : ∃ i, i < n ∧ s.testBit i = true :=
  ⟨fstb s, lw_fst hs h0 hn, (fstb_tab ⟨s, by omega⟩ h0).1⟩
abbrev idl (e : Dt) : Prop := e.1 = 0 ∨ e.2.1 = 0
theorem used_ex (hT : TabOK T) (hD : TrD L dp) (h : PaOK L p) {k : Nat} (hk : k < L.length) (hu : ¬ idl (CM T L p k)) : ∃ r c, r < tR T ∧ c < tC T ∧ cmIn (CM T L p k) r c = true := by
  obtain ⟨b1, b2, _, _, _, _⟩ := CM_bd hT hD h _ _ (Nat.lt_succ_self _) hk
  obtain ⟨r, r1, r2⟩ := bit_ex (lt_64_of hT.1.2 b1) b1 (fun q => hu (Or.inl q))
  obtain ⟨c, c1, c2⟩ := bit_ex (lt_64_of hT.2.1.2 b2) b2 (fun q => hu (Or.inr q))
  exact ⟨r, c, r1, c1, by unfold cmIn; rw [r2, c2]; rfl⟩
theorem in_used {e : Dt} {r c : Nat} (h : cmIn e r c = true) : ¬ idl e := by
  unfold cmIn at h
  rw [Bool.and_eq_true] at h
  rintro (q | q)
  · rw [q, Nat.zero_testBit] at h; cases h.1
  · rw [q, Nat.zero_testBit] at h; cases h.2
/-- the greatest of some -/
def xm (f : Nat → Nat) : Nat → Nat
  | 0 => 0
  | n + 1 => max (xm f n) (f n)
theorem xm_ge (f : Nat → Nat) {i : Nat} : ∀ {n : Nat}, i < n → f i ≤ xm f n
  | n + 1, hi => by
    show f i ≤ max (xm f n) (f n)
    by_cases e : i = n
    · subst e; omega
    · have := xm_ge f (n := n) (i := i) (by omega); omega
theorem xm_le {f : Nat → Nat} {b : Nat} : ∀ {n : Nat}, (∀ i, i < n → f i ≤ b) → xm f n ≤ b
  | 0, _ => Nat.zero_le _
  | n + 1, h => by
    show max (xm f n) (f n) ≤ b
    have := xm_le (f := f) (b := b) (n := n) (fun i hi => h i (by omega))
    have := h n (by omega)
    omega
theorem sm_swp (f : Nat → Nat → Nat) (m : Nat) : ∀ n, sm (fun i => sm (fun j => f i j) m) n = sm (fun j => sm (fun i => f i j) n) m
  | 0 => (sm_zero m).symm
  | n + 1 => by
    show sm (fun i => sm (fun j => f i j) m) n + sm (fun j => f n j) m = sm (fun j => sm (fun i => f i j) n + f n j) m
    rw [sm_add, sm_swp f m n]
/-- a sum over the entries of the table -/
def s2 (T : Tab) (f : Nat → Nat → Nat) : Nat := sm (fun r => sm (fun c => f r c) (tC T)) (tR T)
def x2 (T : Tab) (f : Nat → Nat → Nat) : Nat := xm (fun r => xm (fun c => f r c) (tC T)) (tR T)
theorem s2_congr {f g : Nat → Nat → Nat} (h : ∀ r c, r < tR T → c < tC T → f r c = g r c) : s2 T f = s2 T g := sm_congr (fun r hr => sm_congr (fun c hc => h r c hr hc))
theorem x2_ge (f : Nat → Nat → Nat) {r c : Nat} (hr : r < tR T) (hc : c < tC T) : f r c ≤ x2 T f := Nat.le_trans (xm_ge (fun c => f r c) hc) (xm_ge (fun r => xm (fun c => f r c) (tC T)) hr)
theorem x2_le {f : Nat → Nat → Nat} {b : Nat} (h : ∀ r c, r < tR T → c < tC T → f r c ≤ b) : x2 T f ≤ b := xm_le (fun r hr => xm_le (fun c hc => h r c hr hc))
theorem s2_mul (k : Nat) (f : Nat → Nat → Nat) : s2 T (fun r c => k * f r c) = k * s2 T f := by
  unfold s2
  rw [← sm_mul]
  exact sm_congr (fun r _ => by rw [← sm_mul])
theorem s2_swp (n : Nat) (f : Nat → Nat → Nat → Nat) : sm (fun k => s2 T (f k)) n = s2 T (fun r c => sm (fun k => f k r c) n) := by
  unfold s2
  rw [sm_swp]
  exact sm_congr (fun r _ => sm_swp _ _ _)
/-- over leaves, each with what comes to it: over entries -/
theorem s2_leaf (hT : TabOK T) (hD : TrD L dp) (h : PaOK L p) (f : Nat → Nat → Nat → Nat) :
    sm (fun k => s2 T (fun r c => if (ndA L k).1 = 0 ∧ cmIn (CM T L p k) r c = true then f k r c else 0)) L.length = s2 T (fun r c => f (wy L r c 9 0) r c) := by
  rw [s2_swp]
  refine s2_congr (fun r c hr hc => ?_)
  obtain ⟨a1, a2, a3, _⟩ := leaf_at hT hD h hr hc
  rw [sm_only a1 (fun i hi hne => by
    rw [if_neg]
    rintro ⟨q1, q2⟩
    exact hne (leaf_un hT hD h hr hc hi q1 q2)), if_pos ⟨a2, a3⟩]
theorem nA_s2 (T : Tab) (rs cs : Nat) : nA T rs cs = s2 T (fun r c => da T rs cs r c) := rfl
theorem nU_s2 (T : Tab) (rs cs v : Nat) : nU T rs cs v = s2 T (fun r c => du T rs cs v r c) := rfl
/-- costs of entries that are asked -/
def tSum (T : Tab) (L : List Nd) : Nat := s2 T (fun r c => if tX T (6 * r + c) = 10 then 0 else wc T L r c 9 0)
/-- wrong ones of the leaves above d -/
def tWro (T : Tab) (L : List Nd) (d : Nat) : Nat := s2 T (fun r c => if wl L r c 9 0 < d then (if tX T (6 * r + c) ≠ 10 ∧ (ndA L (wy L r c 9 0)).2.1 ≠ tX T (6 * r + c) then 1 else 0) else 0)
theorem tSum_eq (hT : TabOK T) (hD : TrD L dp) (h : PaOK L p) : sm (fun k => if (ndA L k).1 = 0 then (CM T L p k).2.2.2.1 * nA T (CM T L p k).1 (CM T L p k).2.1 else 0) L.length = tSum T L := by
  have e := s2_leaf hT hD h (fun k r c => (CM T L p k).2.2.2.1 * (if tX T (6 * r + c) = 10 then 0 else 1))
  have e2 : s2 T (fun r c => (CM T L p (wy L r c 9 0)).2.2.2.1 * (if tX T (6 * r + c) = 10 then 0 else 1)) = tSum T L := s2_congr (fun r c hr hc => by
    rw [(leaf_at hT hD h hr hc).2.2.2.2.1]
    split <;> omega)
  rw [e2] at e
  rw [← e]
  refine sm_congr (fun k hk => ?_)
  by_cases h0 : (ndA L k).1 = 0
  · rw [if_pos h0, nA_s2, ← s2_mul]
    refine s2_congr (fun r c _ _ => ?_)
    unfold da cmIn
    by_cases q1 : (CM T L p k).1.testBit r = true <;> by_cases q2 : (CM T L p k).2.1.testBit c = true <;> by_cases q3 : tX T (6 * r + c) = 10 <;> simp [q1, q2, q3, h0]
  · rw [if_neg h0]
    have : s2 T (fun _ _ => 0) = 0 := by unfold s2; exact sm_z _ (fun r _ => sm_zero _)
    exact this.symm.trans (s2_congr (fun r c _ _ => by rw [if_neg (fun q => h0 q.1)]))
theorem tWro_eq (hT : TabOK T) (hD : TrD L dp) (h : PaOK L p) (d : Nat) : sm (fun k => if (ndA L k).1 = 0 ∧ (CM T L p k).2.2.1 < d then nU T (CM T L p k).1 (CM T L p k).2.1 (ndA L k).2.1 else 0) L.length = tWro T L d := by
  have e := s2_leaf hT hD h (fun k r c => if (CM T L p k).2.2.1 < d then (if tX T (6 * r + c) ≠ 10 ∧ (ndA L k).2.1 ≠ tX T (6 * r + c) then 1 else 0) else 0)
  have e2 : s2 T (fun r c => if (CM T L p (wy L r c 9 0)).2.2.1 < d then (if tX T (6 * r + c) ≠ 10 ∧ (ndA L (wy L r c 9 0)).2.1 ≠ tX T (6 * r + c) then 1 else 0) else 0) = tWro T L d := s2_congr (fun r c hr hc => by
    rw [(leaf_at hT hD h hr hc).2.2.2.1])
  rw [e2] at e
  rw [← e]
  refine sm_congr (fun k hk => ?_)
  have z : s2 T (fun _ _ => 0) = 0 := by unfold s2; exact sm_z _ (fun r _ => sm_zero _)
  by_cases h0 : (ndA L k).1 = 0 ∧ (CM T L p k).2.2.1 < d
  · rw [if_pos h0, nU_s2]
    refine s2_congr (fun r c _ _ => ?_)
    rw [if_pos h0.2]
    have h1 := h0.1
    unfold du cmIn
    generalize tX T (6 * r + c) = x
    generalize (ndA L k).2.1 = v
    by_cases q4 : v = x
    · subst q4
      by_cases q1 : (CM T L p k).1.testBit r = true <;> by_cases q2 : (CM T L p k).2.1.testBit c = true <;> simp [q1, q2, h1]
    · have q5 : ¬ x = v := fun e => q4 e.symm
      by_cases q1 : (CM T L p k).1.testBit r = true <;> by_cases q2 : (CM T L p k).2.1.testBit c = true <;> by_cases q3 : x = 10 <;> simp [q1, q2, q3, q4, q5, h1]
  · rw [if_neg h0]
    refine z.symm.trans (s2_congr (fun r c _ _ => ?_))
    by_cases q : (ndA L k).1 = 0 ∧ cmIn (CM T L p k) r c = true
    · rw [if_pos q, if_neg (fun w => h0 ⟨q.1, w⟩)]
    · rw [if_neg q]
/-- greatest ones over used leaves: over entries -/
theorem x2_leaf (hT : TabOK T) (hD : TrD L dp) (h : PaOK L p) (g : Nat → Nat) (f : Nat → Nat → Nat) (hf : ∀ r c, r < tR T → c < tC T → g (wy L r c 9 0) = f r c) :
    xm (fun k => if (ndA L k).1 = 0 ∧ ¬ idl (CM T L p k) then g k else 0) L.length = x2 T f := by
  apply Nat.le_antisymm
  · refine xm_le (fun k hk => ?_)
    by_cases q : (ndA L k).1 = 0 ∧ ¬ idl (CM T L p k)
    · rw [if_pos q]
      obtain ⟨r, c, hr, hc, hi⟩ := used_ex hT hD h hk q.2
      rw [leaf_un hT hD h hr hc hk q.1 hi, hf r c hr hc]
      exact x2_ge f hr hc
    · rw [if_neg q]; exact Nat.zero_le _
  · refine x2_le (fun r c hr hc => ?_)
    obtain ⟨a1, a2, a3, _⟩ := leaf_at hT hD h hr hc
    have key : (if (ndA L (wy L r c 9 0)).1 = 0 ∧ ¬ idl (CM T L p (wy L r c 9 0)) then g (wy L r c 9 0) else 0) ≤ xm (fun k => if (ndA L k).1 = 0 ∧ ¬ idl (CM T L p k) then g k else 0) L.length := xm_ge (fun k => if (ndA L k).1 = 0 ∧ ¬ idl (CM T L p k) then g k else 0) a1
    rw [if_pos ⟨a2, in_used a3⟩, hf r c hr hc] at key
    exact key
/-- a graft's worst cost -/
def gCel (T : Tab) (L : List Nd) (p : Nat → Nat) (d r c : Nat) : Nat := if wl L r c 9 0 < d then wc T L r c 9 0 else (CM T L p (wn L r c d)).2.2.2.1 + BW T 0 (CM T L p (wn L r c d)).1 (CM T L p (wn L r c d)).2.1
def gNod (T : Tab) (L : List Nd) (p : Nat → Nat) (d k : Nat) : Nat := if idl (CM T L p k) then 0 else if (CM T L p k).2.2.1 = d then (CM T L p k).2.2.2.1 + BW T 0 (CM T L p k).1 (CM T L p k).2.1 else if (ndA L k).1 = 0 ∧ (CM T L p k).2.2.1 < d then (CM T L p k).2.2.2.1 else 0
theorem x2_graft (hT : TabOK T) (hD : TrD L dp) (h : PaOK L p) (d : Nat) : xm (gNod T L p d) L.length = x2 T (gCel T L p d) := by
  apply Nat.le_antisymm
  · refine xm_le (fun k hk => ?_)
    unfold gNod
    by_cases q : idl (CM T L p k)
    · rw [if_pos q]; exact Nat.zero_le _
    rw [if_neg q]
    obtain ⟨r, c, hr, hc, hi⟩ := used_ex hT hD h hk q
    obtain ⟨b1, b2⟩ := in_way hT hD h hr hc _ _ (Nat.lt_succ_self _) hk hi
    have b3 := (CM_bd hT hD h _ _ (Nat.lt_succ_self _) hk).2.2.1
    have key := x2_ge (gCel T L p d) hr hc
    have ec : gCel T L p d r c = if wl L r c 9 0 < d then wc T L r c 9 0 else (CM T L p (wn L r c d)).2.2.2.1 + BW T 0 (CM T L p (wn L r c d)).1 (CM T L p (wn L r c d)).2.1 := rfl
    by_cases q1 : (CM T L p k).2.2.1 = d
    · rw [if_pos q1]
      have dd : d = dp k := by omega
      rw [if_neg (by omega)] at ec
      rw [ec, dd, b1, ← dd] at key
      exact key
    rw [if_neg q1]
    by_cases q2 : (ndA L k).1 = 0 ∧ (CM T L p k).2.2.1 < d
    · rw [if_pos q2]
      have e := leaf_un hT hD h hr hc hk q2.1 hi
      obtain ⟨_, _, _, c4, c5, _⟩ := leaf_at hT hD h hr hc
      rw [← e] at c4 c5
      rw [if_pos (by omega)] at ec
      rw [c5, ← ec]
      exact key
    · rw [if_neg q2]; exact Nat.zero_le _
  · refine x2_le (fun r c hr hc => ?_)
    unfold gCel
    by_cases q : wl L r c 9 0 < d
    · rw [if_pos q]
      obtain ⟨a1, a2, a3, a4, a5, _⟩ := leaf_at hT hD h hr hc
      have key := xm_ge (gNod T L p d) a1
      have ec : gNod T L p d (wy L r c 9 0) = if idl (CM T L p (wy L r c 9 0)) then 0 else if (CM T L p (wy L r c 9 0)).2.2.1 = d then (CM T L p (wy L r c 9 0)).2.2.2.1 + BW T 0 (CM T L p (wy L r c 9 0)).1 (CM T L p (wy L r c 9 0)).2.1 else if (ndA L (wy L r c 9 0)).1 = 0 ∧ (CM T L p (wy L r c 9 0)).2.2.1 < d then (CM T L p (wy L r c 9 0)).2.2.2.1 else 0 := rfl
      rw [if_neg (in_used a3), if_neg (by omega), if_pos ⟨a2, by omega⟩, a5] at ec
      rw [← ec]
      exact key
    · rw [if_neg q]
      obtain ⟨a1, _⟩ := way_in hT hD h hr hc d (by omega)
      obtain ⟨_, w2, w3, _⟩ := wn_in hD (r := r) (c := c) d (by omega)
      have b3 := (CM_bd hT hD h _ _ (Nat.lt_succ_self _) w2).2.2.1
      have key := xm_ge (gNod T L p d) w2
      have ec : gNod T L p d (wn L r c d) = if idl (CM T L p (wn L r c d)) then 0 else if (CM T L p (wn L r c d)).2.2.1 = d then (CM T L p (wn L r c d)).2.2.2.1 + BW T 0 (CM T L p (wn L r c d)).1 (CM T L p (wn L r c d)).2.1 else if (ndA L (wn L r c d)).1 = 0 ∧ (CM T L p (wn L r c d)).2.2.1 < d then (CM T L p (wn L r c d)).2.2.2.1 else 0 := rfl
      rw [if_neg (in_used a1), if_pos (by omega)] at ec
      rw [← ec]
      exact key
end TR
