/-! ===== what comes to the nodes of a tree told ===== -/
abbrev Dt : Type := Nat × Nat × Nat × Nat × Nat × Nat
/-- p: of each node but the first the one above it -/
def PaOK (L : List Nd) (p : Nat → Nat) : Prop := (∀ k, k < L.length → (ndA L k).1 ≠ 0 → p (k + 1) = k ∧ p (ndA L k).2.2.toNat = k) ∧ ∀ k, 0 < k → k < L.length → p k < k ∧ (ndA L (p k)).1 ≠ 0 ∧ (k = p k + 1 ∨ k = (ndA L (p k)).2.2.toNat)
def ctS (b : Bool) (a s : Nat) : Nat := if b then a &&& s else sDif a s
def dBas (T : Tab) : Dt := (2 ^ tR T - 1, 2 ^ tC T - 1, 0, 0, 0, 0)
/-- rows, columns, depth, price, turns, who talked last -/
def dStp (T : Tab) (x s : Nat) (b : Bool) (e : Dt) : Dt := (if x = 1 then ctS b e.1 s else e.1, if x = 1 then e.2.1 else ctS b e.2.1 s, e.2.2.1 + 1, e.2.2.2.1 + prK T x, e.2.2.2.2.1 + tu e.2.2.2.2.2 x, x)
def cmF (T : Tab) (L : List Nd) (p : Nat → Nat) : Nat → Nat → Dt
  | 0, _ => dBas T
  | n + 1, k => if k = 0 then dBas T else dStp T (ndA L (p k)).1 (ndA L (p k)).2.1 (k == p k + 1) (cmF T L p n (p k))
def CM (T : Tab) (L : List Nd) (p : Nat → Nat) (k : Nat) : Dt := cmF T L p 31 k
theorem cmF_eq {T : Tab} {L : List Nd} {p : Nat → Nat} (h : PaOK L p) : ∀ n m k, k < L.length → k ≤ n → k ≤ m → cmF T L p n k = cmF T L p m k
  | 0, m, k, _, h1, _ => by
    have e : k = 0 := by omega
    subst e
    cases m with
    | zero => rfl
    | succ m => rfl
  | n + 1, m, k, hk, h1, h2 => by
    by_cases e : k = 0
    · subst e
      cases m with
      | zero => rfl
      | succ m => rfl
    · obtain ⟨m, rfl⟩ : ∃ q, m = q + 1 := ⟨m - 1, by omega⟩
      have a := (h.2 k (by omega) hk).1
      show (if k = 0 then dBas T else dStp T (ndA L (p k)).1 (ndA L (p k)).2.1 (k == p k + 1) (cmF T L p n (p k))) = if k = 0 then dBas T else dStp T (ndA L (p k)).1 (ndA L (p k)).2.1 (k == p k + 1) (cmF T L p m (p k))
      rw [if_neg e, if_neg e, cmF_eq h n m (p k) (by omega) (by omega) (by omega)]
theorem CM_0 (T : Tab) (L : List Nd) (p : Nat → Nat) : CM T L p 0 = dBas T := rfl
theorem CM_1 {T : Tab} {L : List Nd} {p : Nat → Nat} {dp : Nat → Nat} (hD : TrD L dp) (h : PaOK L p) {k : Nat} (hk : k < L.length) (h0 : (ndA L k).1 ≠ 0) : CM T L p (k + 1) = dStp T (ndA L k).1 (ndA L k).2.1 true (CM T L p k) := by
  have a := (h.1 k hk h0).1
  have b := ((hD.2.2.2 k hk).2.2.2 h0).2.1
  have l31 := hD.2.1
  show (if k + 1 = 0 then dBas T else dStp T (ndA L (p (k + 1))).1 (ndA L (p (k + 1))).2.1 (k + 1 == p (k + 1) + 1) (cmF T L p 30 (p (k + 1)))) = _
  rw [if_neg (by omega), a, cmF_eq h 30 31 k hk (by omega) (by omega), beq_self_eq_true]
  rfl
theorem CM_2 {T : Tab} {L : List Nd} {p : Nat → Nat} {dp : Nat → Nat} (hD : TrD L dp) (h : PaOK L p) {k : Nat} (hk : k < L.length) (h0 : (ndA L k).1 ≠ 0) : CM T L p (ndA L k).2.2.toNat = dStp T (ndA L k).1 (ndA L k).2.1 false (CM T L p k) := by
  have a := (h.1 k hk h0).2
  obtain ⟨_, b1, b2, b3, _, _⟩ := (hD.2.2.2 k hk).2.2.2 h0
  have l31 := hD.2.1
  obtain ⟨q, hq⟩ : ∃ q, q = (ndA L k).2.2.toNat := ⟨_, rfl⟩
  rw [← hq] at a ⊢
  have q1 : k + 1 < q := by omega
  show (if q = 0 then dBas T else dStp T (ndA L (p q)).1 (ndA L (p q)).2.1 (q == p q + 1) (cmF T L p 30 (p q))) = _
  rw [if_neg (by omega), a, cmF_eq h 30 31 k hk (by omega) (by omega), show (q == k + 1) = false by rw [beq_eq_false_iff_ne]; omega]
  rfl
/-- of each node but the first: the one above it -/
theorem CM_par {T : Tab} {L : List Nd} {p : Nat → Nat} {dp : Nat → Nat} (hD : TrD L dp) (h : PaOK L p) {k : Nat} (hk : k < L.length) (k0 : 0 < k) : ∃ j b, j < k ∧ (ndA L j).1 ≠ 0 ∧ CM T L p k = dStp T (ndA L j).1 (ndA L j).2.1 b (CM T L p j) ∧ k = (if b = true then j + 1 else (ndA L j).2.2.toNat) ∧ dp k = dp j + 1 := by
  obtain ⟨a1, a2, a3⟩ := h.2 k k0 hk
  obtain ⟨_, _, _, _, b5, b6⟩ := (hD.2.2.2 (p k) (by omega)).2.2.2 a2
  rcases a3 with e | e
  · refine ⟨p k, true, a1, a2, ?_, by rw [if_pos rfl]; exact e, by rw [← b5, ← e]⟩
    have c := CM_1 (T := T) hD h (show p k < L.length by omega) a2
    rw [← e] at c
    exact c
  · refine ⟨p k, false, a1, a2, ?_, by rw [if_neg (by decide)]; exact e, by rw [← b6, ← e]⟩
    have c := CM_2 (T := T) hD h (show p k < L.length by omega) a2
    rw [← e] at c
    exact c
theorem ctS_le (b : Bool) (a s : Nat) : ctS b a s ≤ a := by
  unfold ctS
  split
  · exact Nat.and_le_left
  · exact sDif_le _ _
theorem ctS_bit {b : Bool} {a s i : Nat} (ha : a < 64) (hs : s < 64) (hi : i < 6) : (ctS b a s).testBit i = (a.testBit i && (s.testBit i == b)) := by
  unfold ctS
  cases b
  · rw [if_neg (by decide), sDif_bit ha hs hi]; cases a.testBit i <;> cases s.testBit i <;> rfl
  · rw [if_pos rfl, Nat.testBit_and]; cases a.testBit i <;> cases s.testBit i <;> rfl
def cmIn (e : Dt) (r c : Nat) : Bool := e.1.testBit r && e.2.1.testBit c
theorem cmIn_stp {T : Tab} {x s : Nat} {b : Bool} {e : Dt} (h1 : e.1 < 64) (h2 : e.2.1 < 64) (hs : s < 64) {r c : Nat} (hr : r < 6) (hc : c < 6) : cmIn (dStp T x s b e) r c = (cmIn e r c && (s.testBit (if x = 1 then r else c) == b)) := by
  unfold cmIn dStp
  by_cases e1 : x = 1
  · show ((if x = 1 then ctS b e.1 s else e.1).testBit r && (if x = 1 then e.2.1 else ctS b e.2.1 s).testBit c) = _
    rw [if_pos e1, if_pos e1, if_pos e1, ctS_bit h1 hs hr]
    cases e.1.testBit r <;> cases e.2.1.testBit c <;> cases (s.testBit r == b) <;> rfl
  · show ((if x = 1 then ctS b e.1 s else e.1).testBit r && (if x = 1 then e.2.1 else ctS b e.2.1 s).testBit c) = _
    rw [if_neg e1, if_neg e1, if_neg e1, ctS_bit h2 hs hc]
    cases e.1.testBit r <;> cases e.2.1.testBit c <;> cases (s.testBit c == b) <;> rfl
theorem CM_bd {T : Tab} (hT : TabOK T) {L : List Nd} {p : Nat → Nat} {dp : Nat → Nat} (hD : TrD L dp) (h : PaOK L p) : ∀ n k, k < n → k < L.length → (CM T L p k).1 < 2 ^ tR T ∧ (CM T L p k).2.1 < 2 ^ tC T ∧ (CM T L p k).2.2.1 = dp k ∧ (CM T L p k).2.2.2.1 ≤ 9 * dp k ∧ (CM T L p k).2.2.2.2.1 ≤ dp k ∧ (CM T L p k).2.2.2.2.2 ≤ 2
  | 0, k, h1, _ => by omega
  | n + 1, k, h1, hk => by
    by_cases e : k = 0
    · subst e
      rw [CM_0, hD.2.2.1]
      have := Nat.two_pow_pos (tR T)
      have := Nat.two_pow_pos (tC T)
      exact ⟨by show 2 ^ tR T - 1 < _; omega, by show 2 ^ tC T - 1 < _; omega, rfl, Nat.le_refl _, Nat.le_refl _, by show 0 ≤ 2; omega⟩
    · obtain ⟨j, b, j1, j2, j3, _, j5⟩ := CM_par (T := T) hD h hk (by omega)
      obtain ⟨i1, i2, i3, i4, i5, i6⟩ := CM_bd hT hD h n j (by omega) (by omega)
      have x2 := (hD.2.2.2 j (by omega)).1
      have ca := hT.2.2.2.1
      have cb := hT.2.2.2.2
      rw [j3, j5]
      refine ⟨?_, ?_, by show (CM T L p j).2.2.1 + 1 = _; omega, ?_, ?_, x2⟩
      · show (if (ndA L j).1 = 1 then ctS b (CM T L p j).1 (ndA L j).2.1 else (CM T L p j).1) < _
        have := ctS_le b (CM T L p j).1 (ndA L j).2.1
        split <;> omega
      · show (if (ndA L j).1 = 1 then (CM T L p j).2.1 else ctS b (CM T L p j).2.1 (ndA L j).2.1) < _
        have := ctS_le b (CM T L p j).2.1 (ndA L j).2.1
        split <;> omega
      · show (CM T L p j).2.2.2.1 + prK T (ndA L j).1 ≤ _
        have : prK T (ndA L j).1 ≤ 9 := by unfold prK; split <;> omega
        omega
      · show (CM T L p j).2.2.2.2.1 + tu (CM T L p j).2.2.2.2.2 (ndA L j).1 ≤ _
        have : tu (CM T L p j).2.2.2.2.2 (ndA L j).1 ≤ 1 := by unfold tu; split; omega; split <;> omega
        omega
theorem wn_end {L : List Nd} {dp : Nat → Nat} (h : TrD L dp) {r c : Nat} : (ndA L (wn L r c (wl L r c 9 0))).1 = 0 := by
  obtain ⟨a1, a2, a3, a4⟩ := wn_in h (r := r) (c := c) (wl L r c 9 0) (Nat.le_refl _)
  obtain ⟨i, hi⟩ : ∃ i, i = wl L r c 9 0 := ⟨_, rfl⟩
  rw [← hi] at a1 a2 a3 a4 ⊢
  refine Classical.byContradiction (fun e => ?_)
  have b := ((h.2.2.2 _ a2).2.2.2 e).1
  obtain ⟨m, hm⟩ : ∃ m, 9 - i = m + 1 := ⟨8 - i, by omega⟩
  rw [hm] at a4
  replace a4 : i = (if (ndA L (wn L r c i)).1 = 0 then 0 else wl L r c m (nxt L r c (wn L r c i)) + 1) + i := a4
  rw [if_neg e] at a4
  omega
theorem yes_bit {L : List Nd} {r c k : Nat} {b : Bool} (h : ((ndA L k).2.1.testBit (if (ndA L k).1 = 1 then r else c) == b) = true) : nxt L r c k = if b = true then k + 1 else (ndA L k).2.2.toNat := by
  unfold nxt yesAt
  rw [beq_iff_eq] at h
  rw [h]
/-- what the way of an entry passes, it comes to -/
theorem way_in {T : Tab} (hT : TabOK T) {L : List Nd} {p : Nat → Nat} {dp : Nat → Nat} (hD : TrD L dp) (h : PaOK L p) {r c : Nat} (hr : r < tR T) (hc : c < tC T) : ∀ i, i ≤ wl L r c 9 0 → cmIn (CM T L p (wn L r c i)) r c = true ∧ wc T L r c 9 0 = (CM T L p (wn L r c i)).2.2.2.1 + wc T L r c (9 - i) (wn L r c i) ∧ wt L r c 9 0 0 = (CM T L p (wn L r c i)).2.2.2.2.1 + wt L r c (9 - i) (wn L r c i) (CM T L p (wn L r c i)).2.2.2.2.2 ∧ wy L r c 9 0 = wy L r c (9 - i) (wn L r c i)
  | 0, _ => by
    refine ⟨?_, (Nat.zero_add _).symm, (Nat.zero_add _).symm, rfl⟩
    show ((2 ^ tR T - 1).testBit r && (2 ^ tC T - 1).testBit c) = true
    rw [ones_bit, ones_bit]
    simp [hr, hc]
  | i + 1, hi => by
    obtain ⟨a1, a2, a3, a4⟩ := way_in hT hD h hr hc i (by omega)
    obtain ⟨w1, w2, w3, _⟩ := wn_in hD (r := r) (c := c) i (by omega)
    have g0 := wn_go hD (r := r) (c := c) (i := i) (by omega)
    have w9 := wl_9 L r c 9 0
    obtain ⟨m, hm⟩ : ∃ m, 9 - i = m + 1 := ⟨8 - i, by omega⟩
    rw [show 9 - (i + 1) = m by omega]
    rw [hm] at a2 a3 a4
    obtain ⟨k, hk⟩ : ∃ k, k = wn L r c i := ⟨_, rfl⟩
    have e1 : wn L r c (i + 1) = nxt L r c k := by rw [hk]; rfl
    rw [← hk] at a1 a2 a3 a4 w2 g0
    rw [e1]
    replace a2 : wc T L r c 9 0 = (CM T L p k).2.2.2.1 + (if (ndA L k).1 = 0 then 0 else prK T (ndA L k).1 + wc T L r c m (nxt L r c k)) := a2
    replace a3 : wt L r c 9 0 0 = (CM T L p k).2.2.2.2.1 + (if (ndA L k).1 = 0 then 0 else tu (CM T L p k).2.2.2.2.2 (ndA L k).1 + wt L r c m (nxt L r c k) (ndA L k).1) := a3
    replace a4 : wy L r c 9 0 = if (ndA L k).1 = 0 then k else wy L r c m (nxt L r c k) := a4
    rw [if_neg g0] at a2 a3 a4
    obtain ⟨b1, b2, _, _, _, _⟩ := CM_bd hT hD h (k + 1) k (by omega) w2
    have s6 := (hD.2.2.2 k w2).2.1
    have r6 := lt_64_of hT.1.2 b1
    have c6 := lt_64_of hT.2.1.2 b2
    have hR := hT.1
    have hC := hT.2.1
    have key : ∀ b, ((ndA L k).2.1.testBit (if (ndA L k).1 = 1 then r else c) == b) = true → CM T L p (nxt L r c k) = dStp T (ndA L k).1 (ndA L k).2.1 b (CM T L p k) := fun b hb => by
      rw [yes_bit hb]
      cases b
      · rw [if_neg (by decide)]; exact CM_2 hD h w2 g0
      · rw [if_pos rfl]; exact CM_1 hD h w2 g0
    have key2 := key _ (beq_self_eq_true _)
    rw [key2]
    refine ⟨?_, ?_, ?_, a4⟩
    · rw [cmIn_stp r6 c6 s6 (by omega) (by omega), a1, beq_self_eq_true]; rfl
    · show _ = (CM T L p k).2.2.2.1 + prK T (ndA L k).1 + _
      omega
    · show wt L r c 9 0 0 = (CM T L p k).2.2.2.2.1 + tu (CM T L p k).2.2.2.2.2 (ndA L k).1 + wt L r c m (nxt L r c k) (ndA L k).1
      omega
/-- and by no other node -/
theorem in_way {T : Tab} (hT : TabOK T) {L : List Nd} {p : Nat → Nat} {dp : Nat → Nat} (hD : TrD L dp) (h : PaOK L p) {r c : Nat} (hr : r < tR T) (hc : c < tC T) : ∀ n k, k < n → k < L.length → cmIn (CM T L p k) r c = true → wn L r c (dp k) = k ∧ dp k ≤ wl L r c 9 0
  | 0, k, h1, _, _ => by omega
  | n + 1, k, h1, hk, hi => by
    by_cases e : k = 0
    · subst e
      rw [hD.2.2.1]; exact ⟨rfl, Nat.zero_le _⟩
    · obtain ⟨j, b, j1, j2, j3, j4, j5⟩ := CM_par (T := T) hD h hk (by omega)
      obtain ⟨b1, b2, _, _, _, _⟩ := CM_bd hT hD h (j + 1) j (by omega) (by omega)
      have s6 := (hD.2.2.2 j (by omega)).2.1
      have hR := hT.1
      have hC := hT.2.1
      rw [j3, cmIn_stp (lt_64_of hT.1.2 b1) (lt_64_of hT.2.1.2 b2) s6 (by omega) (by omega), Bool.and_eq_true] at hi
      obtain ⟨c1, c2⟩ := in_way hT hD h hr hc n j (by omega) (by omega) hi.1
      have c3 : dp j ≠ wl L r c 9 0 := fun q => j2 (by rw [← c1, q]; exact wn_end hD)
      rw [j5]
      refine ⟨?_, by omega⟩
      show nxt L r c (wn L r c (dp j)) = k
      rw [c1, yes_bit hi.2, j4]
