/-! ===== bit: the class's way ===== -/
theorem wn_in {L : List Nd} {dp : Nat → Nat} (h : TrD L dp) {r c : Nat} : ∀ i, i ≤ wl L r c 9 0 → i ≤ 9 ∧ wn L r c i < L.length ∧ dp (wn L r c i) = i ∧ wl L r c 9 0 = wl L r c (9 - i) (wn L r c i) + i
  | 0, _ => ⟨by omega, by have := h.1; show 0 < _; omega, h.2.2.1, rfl⟩
  | i + 1, hi => by
    obtain ⟨a1, a2, a3, a4⟩ := wn_in h (r := r) (c := c) i (by omega)
    have a5 : i < 9 := by have := wl_9 L r c 9 0; omega
    obtain ⟨m, hm⟩ : ∃ m, 9 - i = m + 1 := ⟨8 - i, by omega⟩
    rw [hm] at a4
    replace a4 : wl L r c 9 0 = (if (ndA L (wn L r c i)).1 = 0 then 0 else wl L r c m (nxt L r c (wn L r c i)) + 1) + i := a4
    by_cases e : (ndA L (wn L r c i)).1 = 0
    · rw [if_pos e] at a4; omega
    · rw [if_neg e] at a4
      obtain ⟨_, b2, b3⟩ := nxt_ok h (r := r) (c := c) a2 e
      refine ⟨by omega, b2, by show dp (nxt L r c (wn L r c i)) = _; omega, ?_⟩
      rw [show 9 - (i + 1) = m by omega]
      show _ = wl L r c m (nxt L r c (wn L r c i)) + (i + 1)
      omega
theorem wn_go {L : List Nd} {dp : Nat → Nat} (h : TrD L dp) {r c i : Nat} (hi : i < wl L r c 9 0) : (ndA L (wn L r c i)).1 ≠ 0 := fun e => by
  obtain ⟨a1, a2, a3, a4⟩ := wn_in h (r := r) (c := c) i (by omega)
  have a5 : i < 9 := by have := wl_9 L r c 9 0; omega
  obtain ⟨m, hm⟩ : ∃ m, 9 - i = m + 1 := ⟨8 - i, by omega⟩
  rw [hm] at a4
  replace a4 : wl L r c 9 0 = (if (ndA L (wn L r c i)).1 = 0 then 0 else wl L r c m (nxt L r c (wn L r c i)) + 1) + i := a4
  rw [if_pos e] at a4
  omega
