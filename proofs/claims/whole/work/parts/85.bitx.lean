/-! ===== bit: the class's way ===== -/
theorem wn_in {L : List Nd} {dp : Nat → Nat} (h : TrD L dp) {r c : Nat} : ∀ i, i ≤ wl L r c 9 0 → i ≤ 9 ∧ wn L r c i < L.length ∧ dp (wn L r c i) = i ∧ wl L r c 9 0 = wl L r c (9 - i) (wn L r c i) + i
  | 0, _ => ⟨by omega, by have := h.1; show 0 < _; omega, h.2.2.1, rfl⟩
  | i + 1, hi => by
    obtain ⟨a1, a2, a3, a4⟩ := wn_in h (r := r) (c := c) i (by omega)
    have a5 : i < 9 := by have := wl_9 L r c 9 0; omega
    obtain ⟨m, hm⟩ : ∃ m, 9 - i = m + 1 := ⟨8 - i, by omega⟩
    rw [hm] at a4
    replace a4 : wl L r c 9 0 = (if (ndA L (wn L r c i)).1 = 0 then 0 else wl L r c m (nxt L r c (wn L r c i)) + 1) + i := a4
    by_cases e : (ndA L (wn L r c i)).1 = 0
    · rw [if_pos e] at a4; omega
    · rw [if_neg e] at a4
      obtain ⟨_, b2, b3⟩ := nxt_ok h (r := r) (c := c) a2 e
      refine ⟨by omega, b2, by show dp (nxt L r c (wn L r c i)) = _; omega, ?_⟩
      rw [show 9 - (i + 1) = m by omega]
      show _ = wl L r c m (nxt L r c (wn L r c i)) + (i + 1)
      omega
theorem wn_go {L : List Nd} {dp : Nat → Nat} (h : TrD L dp) {r c i : Nat} (hi : i < wl L r c 9 0) : (ndA L (wn L r c i)).1 ≠ 0 := fun e => by
  obtain ⟨a1, a2, a3, a4⟩ := wn_in h (r := r) (c := c) i (by omega)
  have a5 : i < 9 := by have := wl_9 L r c 9 0; omega
  obtain ⟨m, hm⟩ : ∃ m, 9 - i = m + 1 := ⟨8 - i, by omega⟩
  rw [hm] at a4
  replace a4 : wl L r c 9 0 = (if (ndA L (wn L r c i)).1 = 0 then 0 else wl L r c m (nxt L r c (wn L r c i)) + 1) + i := a4
  rw [if_pos e] at a4
  omega
theorem c_Told_bitAt0 {d mc ms : Nat} {M : pm_M} (lay : Lay M) {L : List Nd} {dp : Nat → Nat} (hD : TrD L dp) (hct : pm_ct M 55 3 = (L.length : Int)) (hL : NdL M 56 57 58 L) {r c i : Nat} (hr : r < 6) (hc : c < 6) (hi : i < wl L r c 9 0) :
    pm_E (d + 3) 106 [(2, ((54 : Nat) : Int)), (0, (r : Int)), (0, (c : Int)), (0, (i : Int))] M mc ms (fun ρ M' => ρ = some (0, if yesAt L r c (wn L r c i) then 1 else 0) ∧ M' = M) := by
  obtain ⟨Q, hQ⟩ : ∃ Q : pm_Q, Q = (fun ρ M' => ρ = some (0, if yesAt L r c (wn L r c i) then 1 else 0) ∧ M' = M) := ⟨_, rfl⟩
  rw [← hQ]
  have w9 := wl_9 L r c 9 0
  have l31 := hD.2.1
  have loop : ∀ (n a k : Nat), a + n = i → k = wn L r c a → Wp (d + 3) 106 6 [(2, ((54 : Nat) : Int)), (0, (r : Int)), (0, (c : Int)), (0, (i : Int)), (0, (k : Int)), (0, (a : Int))] [] M mc ms Q := by
    intro n
    induction n with
    | zero =>
      intro a k ha hk
      have e : a = i := by omega
      have kl : k < L.length := by rw [hk]; exact (wn_in hD (r := r) (c := c) a (by omega)).2.1
      have sy := c_Nodes_saysYes0 (d := d + 1) (mc := 0) (ms := 0) lay hD hL kl hr hc
      rw [hk, e] at sy
      rw [← e, ← hk] at sy
      by_cases q : yesAt L r c k = true
      · rw [if_pos q] at sy
        refine g_iload lk_106_6 rfl ?_
        refine g_iload_n lk_106_8 rfl ?_
        refine g_icmp (t := 35) lk_106_9 rfl (by first | (unfold pm_inI; omega) | exact pm_and_in _ _ | exact pm_shr_in _ _ | exact pm_or_in _ _ | exact pm_xor_in _ _ | exact pm_shl_in _ _ | exact pm_cmp_in _ _ | exact pm_b8_in _ | (unfold pm_inI; split <;> omega)) (by first | (unfold pm_inI; omega) | exact pm_and_in _ _ | exact pm_shr_in _ _ | exact pm_or_in _ _ | exact pm_xor_in _ _ | exact pm_shl_in _ _ | exact pm_cmp_in _ _ | exact pm_b8_in _ | (unfold pm_inI; split <;> omega)) (fun h1 => ?_) (fun h1 => ?_)
        · replace h1 : (i : Int) ≤ (a : Int) := h1
          refine g_aload_n lk_106_35 rfl ?_
          refine g_getfield lk_106_36 rfl (lay.on (by decide) rfl) (v := ((55 : Nat) : Int)) (lay.rf rfl) ?_
          refine g_iload lk_106_39 rfl ?_
          refine g_iload_n lk_106_41 rfl ?_
          refine g_iload_n lk_106_42 rfl ?_
          refine g_virtual (p := 55) (Qc := _) lk_106_43 rfl (Nat.le_of_ble_eq_true rfl) rfl rfl (lay.on (by decide) rfl) (Nat.le_of_ble_eq_true rfl) (Nat.le_of_ble_eq_true rfl) (Nat.zero_le _) (Nat.zero_le _) (sy) ?_
          rintro _ N2 ⟨rfl, hN2⟩
          rw [hN2]
          show Wp _ 106 46 [(2, ((54 : Nat) : Int)), (0, (r : Int)), (0, (c : Int)), (0, (i : Int)), (0, (k : Int)), (0, (a : Int))] [(0, 1)] M _ _ _
          refine g_if (t := 53) lk_106_46 rfl (by first | (unfold pm_inI; omega) | exact pm_and_in _ _ | exact pm_shr_in _ _ | exact pm_or_in _ _ | exact pm_xor_in _ _ | exact pm_shl_in _ _ | exact pm_cmp_in _ _ | exact pm_b8_in _ | (unfold pm_inI; split <;> omega)) (fun h => absurd h (show ¬ ((1 : Int) = (0 : Int)) by omega)) (fun _ => ?_)
          refine g_iconst lk_106_49 ?_
          refine g_goto (t := 54) lk_106_50 rfl ?_
          refine g_ireturn lk_106_54 (fun h => absurd h (by decide)) ?_
          rw [hQ]
          exact ⟨by rw [← e, ← hk, if_pos q], rfl⟩
        · replace h1 : ¬ ((i : Int) ≤ (a : Int)) := h1
          omega
      · rw [if_neg q] at sy
        refine g_iload lk_106_6 rfl ?_
        refine g_iload_n lk_106_8 rfl ?_
        refine g_icmp (t := 35) lk_106_9 rfl (by first | (unfold pm_inI; omega) | exact pm_and_in _ _ | exact pm_shr_in _ _ | exact pm_or_in _ _ | exact pm_xor_in _ _ | exact pm_shl_in _ _ | exact pm_cmp_in _ _ | exact pm_b8_in _ | (unfold pm_inI; split <;> omega)) (by first | (unfold pm_inI; omega) | exact pm_and_in _ _ | exact pm_shr_in _ _ | exact pm_or_in _ _ | exact pm_xor_in _ _ | exact pm_shl_in _ _ | exact pm_cmp_in _ _ | exact pm_b8_in _ | (unfold pm_inI; split <;> omega)) (fun h1 => ?_) (fun h1 => ?_)
        · replace h1 : (i : Int) ≤ (a : Int) := h1
          refine g_aload_n lk_106_35 rfl ?_
          refine g_getfield lk_106_36 rfl (lay.on (by decide) rfl) (v := ((55 : Nat) : Int)) (lay.rf rfl) ?_
          refine g_iload lk_106_39 rfl ?_
          refine g_iload_n lk_106_41 rfl ?_
          refine g_iload_n lk_106_42 rfl ?_
          refine g_virtual (p := 55) (Qc := _) lk_106_43 rfl (Nat.le_of_ble_eq_true rfl) rfl rfl (lay.on (by decide) rfl) (Nat.le_of_ble_eq_true rfl) (Nat.le_of_ble_eq_true rfl) (Nat.zero_le _) (Nat.zero_le _) (sy) ?_
          rintro _ N2 ⟨rfl, hN2⟩
          rw [hN2]
          show Wp _ 106 46 [(2, ((54 : Nat) : Int)), (0, (r : Int)), (0, (c : Int)), (0, (i : Int)), (0, (k : Int)), (0, (a : Int))] [(0, 0)] M _ _ _
          refine g_if (t := 53) lk_106_46 rfl (by first | (unfold pm_inI; omega) | exact pm_and_in _ _ | exact pm_shr_in _ _ | exact pm_or_in _ _ | exact pm_xor_in _ _ | exact pm_shl_in _ _ | exact pm_cmp_in _ _ | exact pm_b8_in _ | (unfold pm_inI; split <;> omega)) (fun _ => ?_) (fun h => absurd (show (0 : Int) = (0 : Int) by omega) h)
          refine g_iconst lk_106_53 ?_
          refine g_ireturn lk_106_54 (fun h => absurd h (by decide)) ?_
          rw [hQ]
          exact ⟨by rw [← e, ← hk, if_neg q], rfl⟩
        · replace h1 : ¬ ((i : Int) ≤ (a : Int)) := h1
          omega
    | succ n ih =>
      intro a k ha hk
      have kl : k < L.length := by rw [hk]; exact (wn_in hD (r := r) (c := c) a (by omega)).2.1
      have k0 : (ndA L k).1 ≠ 0 := by rw [hk]; exact wn_go hD (by omega)
      have nx := nxt_ok hD (r := r) (c := c) kl k0
      have ch := c_Told_childAt0 (d := d) (mc := 0) (ms := 0) lay hD hct hL kl k0 hr hc
      obtain ⟨m, hm⟩ : ∃ m, m = nxt L r c k := ⟨_, rfl⟩
      rw [← hm] at nx ch
      refine g_iload lk_106_6 rfl ?_
      refine g_iload_n lk_106_8 rfl ?_
      refine g_icmp (t := 35) lk_106_9 rfl (by first | (unfold pm_inI; omega) | exact pm_and_in _ _ | exact pm_shr_in _ _ | exact pm_or_in _ _ | exact pm_xor_in _ _ | exact pm_shl_in _ _ | exact pm_cmp_in _ _ | exact pm_b8_in _ | (unfold pm_inI; split <;> omega)) (by first | (unfold pm_inI; omega) | exact pm_and_in _ _ | exact pm_shr_in _ _ | exact pm_or_in _ _ | exact pm_xor_in _ _ | exact pm_shl_in _ _ | exact pm_cmp_in _ _ | exact pm_b8_in _ | (unfold pm_inI; split <;> omega)) (fun h1 => ?_) (fun h1 => ?_)
      · replace h1 : (i : Int) ≤ (a : Int) := h1
        omega
      · replace h1 : ¬ ((i : Int) ≤ (a : Int)) := h1
        refine g_iload lk_106_12 rfl ?_
        refine g_bipush lk_106_14 ?_
        refine g_icmp (t := 35) lk_106_16 rfl (by first | (unfold pm_inI; omega) | exact pm_and_in _ _ | exact pm_shr_in _ _ | exact pm_or_in _ _ | exact pm_xor_in _ _ | exact pm_shl_in _ _ | exact pm_cmp_in _ _ | exact pm_b8_in _ | (unfold pm_inI; split <;> omega)) (by first | (unfold pm_inI; omega) | exact pm_and_in _ _ | exact pm_shr_in _ _ | exact pm_or_in _ _ | exact pm_xor_in _ _ | exact pm_shl_in _ _ | exact pm_cmp_in _ _ | exact pm_b8_in _ | (unfold pm_inI; split <;> omega)) (fun h2 => ?_) (fun h2 => ?_)
        · replace h2 : 9 ≤ (a : Int) := h2
          omega
        · replace h2 : ¬ (9 ≤ (a : Int)) := h2
          refine g_aload_n lk_106_19 rfl ?_
          refine g_iload lk_106_20 rfl ?_
          refine g_iload_n lk_106_22 rfl ?_
          refine g_iload_n lk_106_23 rfl ?_
          refine g_virtual (p := 54) (Qc := _) lk_106_24 rfl (Nat.le_of_ble_eq_true rfl) rfl rfl (lay.on (by decide) rfl) (Nat.le_of_ble_eq_true rfl) (Nat.le_of_ble_eq_true rfl) (Nat.zero_le _) (Nat.zero_le _) (ch) ?_
          rintro _ N3 ⟨rfl, hN3⟩
          rw [hN3]
          show Wp _ 106 27 [(2, ((54 : Nat) : Int)), (0, (r : Int)), (0, (c : Int)), (0, (i : Int)), (0, (k : Int)), (0, (a : Int))] [(0, (m : Int))] M _ _ _
          refine g_istore (ls' := [(2, ((54 : Nat) : Int)), (0, (r : Int)), (0, (c : Int)), (0, (i : Int)), (0, (m : Int)), (0, (a : Int))]) lk_106_27 rfl rfl ?_
          refine g_iinc (ls' := [(2, ((54 : Nat) : Int)), (0, (r : Int)), (0, (c : Int)), (0, (i : Int)), (0, (m : Int)), (0, ((a : Int) + 1))]) lk_106_29 rfl rfl rfl ?_
          refine g_goto (t := 6) lk_106_32 rfl ?_
          exact ih (a + 1) m (by omega) (by rw [hm, hk]; rfl)
  show Wp (d + 3) 106 0 [(2, ((54 : Nat) : Int)), (0, (r : Int)), (0, (c : Int)), (0, (i : Int)), (9, 0), (9, 0)] [] M mc ms Q
  refine g_iconst lk_106_0 ?_
  refine g_istore (ls' := [(2, ((54 : Nat) : Int)), (0, (r : Int)), (0, (c : Int)), (0, (i : Int)), (0, 0), (9, 0)]) lk_106_1 rfl rfl ?_
  refine g_iconst lk_106_3 ?_
  refine g_istore (ls' := [(2, ((54 : Nat) : Int)), (0, (r : Int)), (0, (c : Int)), (0, (i : Int)), (0, 0), (0, 0)]) lk_106_4 rfl rfl ?_
  exact loop i 0 0 (by omega) rfl
theorem c_Told_bitAt1 {d mc ms : Nat} {M : pm_M} (lay : Lay M) {L : List Nd} {dp : Nat → Nat} (hD : TrD L dp) (hct : pm_ct M 66 3 = (L.length : Int)) (hL : NdL M 67 68 69 L) {r c i : Nat} (hr : r < 6) (hc : c < 6) (hi : i < wl L r c 9 0) :
    pm_E (d + 3) 106 [(2, ((65 : Nat) : Int)), (0, (r : Int)), (0, (c : Int)), (0, (i : Int))] M mc ms (fun ρ M' => ρ = some (0, if yesAt L r c (wn L r c i) then 1 else 0) ∧ M' = M) := by
  obtain ⟨Q, hQ⟩ : ∃ Q : pm_Q, Q = (fun ρ M' => ρ = some (0, if yesAt L r c (wn L r c i) then 1 else 0) ∧ M' = M) := ⟨_, rfl⟩
  rw [← hQ]
  have w9 := wl_9 L r c 9 0
  have l31 := hD.2.1
  have loop : ∀ (n a k : Nat), a + n = i → k = wn L r c a → Wp (d + 3) 106 6 [(2, ((65 : Nat) : Int)), (0, (r : Int)), (0, (c : Int)), (0, (i : Int)), (0, (k : Int)), (0, (a : Int))] [] M mc ms Q := by
    intro n
    induction n with
    | zero =>
      intro a k ha hk
      have e : a = i := by omega
      have kl : k < L.length := by rw [hk]; exact (wn_in hD (r := r) (c := c) a (by omega)).2.1
      have sy := c_Nodes_saysYes1 (d := d + 1) (mc := 0) (ms := 0) lay hD hL kl hr hc
      rw [hk, e] at sy
      rw [← e, ← hk] at sy
      by_cases q : yesAt L r c k = true
      · rw [if_pos q] at sy
        refine g_iload lk_106_6 rfl ?_
        refine g_iload_n lk_106_8 rfl ?_
        refine g_icmp (t := 35) lk_106_9 rfl (by first | (unfold pm_inI; omega) | exact pm_and_in _ _ | exact pm_shr_in _ _ | exact pm_or_in _ _ | exact pm_xor_in _ _ | exact pm_shl_in _ _ | exact pm_cmp_in _ _ | exact pm_b8_in _ | (unfold pm_inI; split <;> omega)) (by first | (unfold pm_inI; omega) | exact pm_and_in _ _ | exact pm_shr_in _ _ | exact pm_or_in _ _ | exact pm_xor_in _ _ | exact pm_shl_in _ _ | exact pm_cmp_in _ _ | exact pm_b8_in _ | (unfold pm_inI; split <;> omega)) (fun h1 => ?_) (fun h1 => ?_)
        · replace h1 : (i : Int) ≤ (a : Int) := h1
          refine g_aload_n lk_106_35 rfl ?_
          refine g_getfield lk_106_36 rfl (lay.on (by decide) rfl) (v := ((66 : Nat) : Int)) (lay.rf rfl) ?_
          refine g_iload lk_106_39 rfl ?_
          refine g_iload_n lk_106_41 rfl ?_
          refine g_iload_n lk_106_42 rfl ?_
          refine g_virtual (p := 66) (Qc := _) lk_106_43 rfl (Nat.le_of_ble_eq_true rfl) rfl rfl (lay.on (by decide) rfl) (Nat.le_of_ble_eq_true rfl) (Nat.le_of_ble_eq_true rfl) (Nat.zero_le _) (Nat.zero_le _) (sy) ?_
          rintro _ N2 ⟨rfl, hN2⟩
          rw [hN2]
          show Wp _ 106 46 [(2, ((65 : Nat) : Int)), (0, (r : Int)), (0, (c : Int)), (0, (i : Int)), (0, (k : Int)), (0, (a : Int))] [(0, 1)] M _ _ _
          refine g_if (t := 53) lk_106_46 rfl (by first | (unfold pm_inI; omega) | exact pm_and_in _ _ | exact pm_shr_in _ _ | exact pm_or_in _ _ | exact pm_xor_in _ _ | exact pm_shl_in _ _ | exact pm_cmp_in _ _ | exact pm_b8_in _ | (unfold pm_inI; split <;> omega)) (fun h => absurd h (show ¬ ((1 : Int) = (0 : Int)) by omega)) (fun _ => ?_)
          refine g_iconst lk_106_49 ?_
          refine g_goto (t := 54) lk_106_50 rfl ?_
          refine g_ireturn lk_106_54 (fun h => absurd h (by decide)) ?_
          rw [hQ]
          exact ⟨by rw [← e, ← hk, if_pos q], rfl⟩
        · replace h1 : ¬ ((i : Int) ≤ (a : Int)) := h1
          omega
      · rw [if_neg q] at sy
        refine g_iload lk_106_6 rfl ?_
        refine g_iload_n lk_106_8 rfl ?_
        refine g_icmp (t := 35) lk_106_9 rfl (by first | (unfold pm_inI; omega) | exact pm_and_in _ _ | exact pm_shr_in _ _ | exact pm_or_in _ _ | exact pm_xor_in _ _ | exact pm_shl_in _ _ | exact pm_cmp_in _ _ | exact pm_b8_in _ | (unfold pm_inI; split <;> omega)) (by first | (unfold pm_inI; omega) | exact pm_and_in _ _ | exact pm_shr_in _ _ | exact pm_or_in _ _ | exact pm_xor_in _ _ | exact pm_shl_in _ _ | exact pm_cmp_in _ _ | exact pm_b8_in _ | (unfold pm_inI; split <;> omega)) (fun h1 => ?_) (fun h1 => ?_)
        · replace h1 : (i : Int) ≤ (a : Int) := h1
          refine g_aload_n lk_106_35 rfl ?_
          refine g_getfield lk_106_36 rfl (lay.on (by decide) rfl) (v := ((66 : Nat) : Int)) (lay.rf rfl) ?_
          refine g_iload lk_106_39 rfl ?_
          refine g_iload_n lk_106_41 rfl ?_
          refine g_iload_n lk_106_42 rfl ?_
          refine g_virtual (p := 66) (Qc := _) lk_106_43 rfl (Nat.le_of_ble_eq_true rfl) rfl rfl (lay.on (by decide) rfl) (Nat.le_of_ble_eq_true rfl) (Nat.le_of_ble_eq_true rfl) (Nat.zero_le _) (Nat.zero_le _) (sy) ?_
          rintro _ N2 ⟨rfl, hN2⟩
          rw [hN2]
          show Wp _ 106 46 [(2, ((65 : Nat) : Int)), (0, (r : Int)), (0, (c : Int)), (0, (i : Int)), (0, (k : Int)), (0, (a : Int))] [(0, 0)] M _ _ _
          refine g_if (t := 53) lk_106_46 rfl (by first | (unfold pm_inI; omega) | exact pm_and_in _ _ | exact pm_shr_in _ _ | exact pm_or_in _ _ | exact pm_xor_in _ _ | exact pm_shl_in _ _ | exact pm_cmp_in _ _ | exact pm_b8_in _ | (unfold pm_inI; split <;> omega)) (fun _ => ?_) (fun h => absurd (show (0 : Int) = (0 : Int) by omega) h)
          refine g_iconst lk_106_53 ?_
          refine g_ireturn lk_106_54 (fun h => absurd h (by decide)) ?_
          rw [hQ]
          exact ⟨by rw [← e, ← hk, if_neg q], rfl⟩
        · replace h1 : ¬ ((i : Int) ≤ (a : Int)) := h1
          omega
    | succ n ih =>
      intro a k ha hk
      have kl : k < L.length := by rw [hk]; exact (wn_in hD (r := r) (c := c) a (by omega)).2.1
      have k0 : (ndA L k).1 ≠ 0 := by rw [hk]; exact wn_go hD (by omega)
      have nx := nxt_ok hD (r := r) (c := c) kl k0
      have ch := c_Told_childAt1 (d := d) (mc := 0) (ms := 0) lay hD hct hL kl k0 hr hc
      obtain ⟨m, hm⟩ : ∃ m, m = nxt L r c k := ⟨_, rfl⟩
      rw [← hm] at nx ch
      refine g_iload lk_106_6 rfl ?_
      refine g_iload_n lk_106_8 rfl ?_
      refine g_icmp (t := 35) lk_106_9 rfl (by first | (unfold pm_inI; omega) | exact pm_and_in _ _ | exact pm_shr_in _ _ | exact pm_or_in _ _ | exact pm_xor_in _ _ | exact pm_shl_in _ _ | exact pm_cmp_in _ _ | exact pm_b8_in _ | (unfold pm_inI; split <;> omega)) (by first | (unfold pm_inI; omega) | exact pm_and_in _ _ | exact pm_shr_in _ _ | exact pm_or_in _ _ | exact pm_xor_in _ _ | exact pm_shl_in _ _ | exact pm_cmp_in _ _ | exact pm_b8_in _ | (unfold pm_inI; split <;> omega)) (fun h1 => ?_) (fun h1 => ?_)
      · replace h1 : (i : Int) ≤ (a : Int) := h1
        omega
      · replace h1 : ¬ ((i : Int) ≤ (a : Int)) := h1
        refine g_iload lk_106_12 rfl ?_
        refine g_bipush lk_106_14 ?_
        refine g_icmp (t := 35) lk_106_16 rfl (by first | (unfold pm_inI; omega) | exact pm_and_in _ _ | exact pm_shr_in _ _ | exact pm_or_in _ _ | exact pm_xor_in _ _ | exact pm_shl_in _ _ | exact pm_cmp_in _ _ | exact pm_b8_in _ | (unfold pm_inI; split <;> omega)) (by first | (unfold pm_inI; omega) | exact pm_and_in _ _ | exact pm_shr_in _ _ | exact pm_or_in _ _ | exact pm_xor_in _ _ | exact pm_shl_in _ _ | exact pm_cmp_in _ _ | exact pm_b8_in _ | (unfold pm_inI; split <;> omega)) (fun h2 => ?_) (fun h2 => ?_)
        · replace h2 : 9 ≤ (a : Int) := h2
          omega
        · replace h2 : ¬ (9 ≤ (a : Int)) := h2
          refine g_aload_n lk_106_19 rfl ?_
          refine g_iload lk_106_20 rfl ?_
          refine g_iload_n lk_106_22 rfl ?_
          refine g_iload_n lk_106_23 rfl ?_
          refine g_virtual (p := 65) (Qc := _) lk_106_24 rfl (Nat.le_of_ble_eq_true rfl) rfl rfl (lay.on (by decide) rfl) (Nat.le_of_ble_eq_true rfl) (Nat.le_of_ble_eq_true rfl) (Nat.zero_le _) (Nat.zero_le _) (ch) ?_
          rintro _ N3 ⟨rfl, hN3⟩
          rw [hN3]
          show Wp _ 106 27 [(2, ((65 : Nat) : Int)), (0, (r : Int)), (0, (c : Int)), (0, (i : Int)), (0, (k : Int)), (0, (a : Int))] [(0, (m : Int))] M _ _ _
          refine g_istore (ls' := [(2, ((65 : Nat) : Int)), (0, (r : Int)), (0, (c : Int)), (0, (i : Int)), (0, (m : Int)), (0, (a : Int))]) lk_106_27 rfl rfl ?_
          refine g_iinc (ls' := [(2, ((65 : Nat) : Int)), (0, (r : Int)), (0, (c : Int)), (0, (i : Int)), (0, (m : Int)), (0, ((a : Int) + 1))]) lk_106_29 rfl rfl rfl ?_
          refine g_goto (t := 6) lk_106_32 rfl ?_
          exact ih (a + 1) m (by omega) (by rw [hm, hk]; rfl)
  show Wp (d + 3) 106 0 [(2, ((65 : Nat) : Int)), (0, (r : Int)), (0, (c : Int)), (0, (i : Int)), (9, 0), (9, 0)] [] M mc ms Q
  refine g_iconst lk_106_0 ?_
  refine g_istore (ls' := [(2, ((65 : Nat) : Int)), (0, (r : Int)), (0, (c : Int)), (0, (i : Int)), (0, 0), (9, 0)]) lk_106_1 rfl rfl ?_
  refine g_iconst lk_106_3 ?_
  refine g_istore (ls' := [(2, ((65 : Nat) : Int)), (0, (r : Int)), (0, (c : Int)), (0, (i : Int)), (0, 0), (0, 0)]) lk_106_4 rfl rfl ?_
  exact loop i 0 0 (by omega) rfl
theorem c_Told_bitAt2 {d mc ms : Nat} {M : pm_M} (lay : Lay M) {L : List Nd} {dp : Nat → Nat} (hD : TrD L dp) (hct : pm_ct M 77 3 = (L.length : Int)) (hL : NdL M 78 79 80 L) {r c i : Nat} (hr : r < 6) (hc : c < 6) (hi : i < wl L r c 9 0) :
    pm_E (d + 3) 106 [(2, ((76 : Nat) : Int)), (0, (r : Int)), (0, (c : Int)), (0, (i : Int))] M mc ms (fun ρ M' => ρ = some (0, if yesAt L r c (wn L r c i) then 1 else 0) ∧ M' = M) := by
  obtain ⟨Q, hQ⟩ : ∃ Q : pm_Q, Q = (fun ρ M' => ρ = some (0, if yesAt L r c (wn L r c i) then 1 else 0) ∧ M' = M) := ⟨_, rfl⟩
  rw [← hQ]
  have w9 := wl_9 L r c 9 0
  have l31 := hD.2.1
  have loop : ∀ (n a k : Nat), a + n = i → k = wn L r c a → Wp (d + 3) 106 6 [(2, ((76 : Nat) : Int)), (0, (r : Int)), (0, (c : Int)), (0, (i : Int)), (0, (k : Int)), (0, (a : Int))] [] M mc ms Q := by
    intro n
    induction n with
    | zero =>
      intro a k ha hk
      have e : a = i := by omega
      have kl : k < L.length := by rw [hk]; exact (wn_in hD (r := r) (c := c) a (by omega)).2.1
      have sy := c_Nodes_saysYes2 (d := d + 1) (mc := 0) (ms := 0) lay hD hL kl hr hc
      rw [hk, e] at sy
      rw [← e, ← hk] at sy
      by_cases q : yesAt L r c k = true
      · rw [if_pos q] at sy
        refine g_iload lk_106_6 rfl ?_
        refine g_iload_n lk_106_8 rfl ?_
        refine g_icmp (t := 35) lk_106_9 rfl (by first | (unfold pm_inI; omega) | exact pm_and_in _ _ | exact pm_shr_in _ _ | exact pm_or_in _ _ | exact pm_xor_in _ _ | exact pm_shl_in _ _ | exact pm_cmp_in _ _ | exact pm_b8_in _ | (unfold pm_inI; split <;> omega)) (by first | (unfold pm_inI; omega) | exact pm_and_in _ _ | exact pm_shr_in _ _ | exact pm_or_in _ _ | exact pm_xor_in _ _ | exact pm_shl_in _ _ | exact pm_cmp_in _ _ | exact pm_b8_in _ | (unfold pm_inI; split <;> omega)) (fun h1 => ?_) (fun h1 => ?_)
        · replace h1 : (i : Int) ≤ (a : Int) := h1
          refine g_aload_n lk_106_35 rfl ?_
          refine g_getfield lk_106_36 rfl (lay.on (by decide) rfl) (v := ((77 : Nat) : Int)) (lay.rf rfl) ?_
          refine g_iload lk_106_39 rfl ?_
          refine g_iload_n lk_106_41 rfl ?_
          refine g_iload_n lk_106_42 rfl ?_
          refine g_virtual (p := 77) (Qc := _) lk_106_43 rfl (Nat.le_of_ble_eq_true rfl) rfl rfl (lay.on (by decide) rfl) (Nat.le_of_ble_eq_true rfl) (Nat.le_of_ble_eq_true rfl) (Nat.zero_le _) (Nat.zero_le _) (sy) ?_
          rintro _ N2 ⟨rfl, hN2⟩
          rw [hN2]
          show Wp _ 106 46 [(2, ((76 : Nat) : Int)), (0, (r : Int)), (0, (c : Int)), (0, (i : Int)), (0, (k : Int)), (0, (a : Int))] [(0, 1)] M _ _ _
          refine g_if (t := 53) lk_106_46 rfl (by first | (unfold pm_inI; omega) | exact pm_and_in _ _ | exact pm_shr_in _ _ | exact pm_or_in _ _ | exact pm_xor_in _ _ | exact pm_shl_in _ _ | exact pm_cmp_in _ _ | exact pm_b8_in _ | (unfold pm_inI; split <;> omega)) (fun h => absurd h (show ¬ ((1 : Int) = (0 : Int)) by omega)) (fun _ => ?_)
          refine g_iconst lk_106_49 ?_
          refine g_goto (t := 54) lk_106_50 rfl ?_
          refine g_ireturn lk_106_54 (fun h => absurd h (by decide)) ?_
          rw [hQ]
          exact ⟨by rw [← e, ← hk, if_pos q], rfl⟩
        · replace h1 : ¬ ((i : Int) ≤ (a : Int)) := h1
          omega
      · rw [if_neg q] at sy
        refine g_iload lk_106_6 rfl ?_
        refine g_iload_n lk_106_8 rfl ?_
        refine g_icmp (t := 35) lk_106_9 rfl (by first | (unfold pm_inI; omega) | exact pm_and_in _ _ | exact pm_shr_in _ _ | exact pm_or_in _ _ | exact pm_xor_in _ _ | exact pm_shl_in _ _ | exact pm_cmp_in _ _ | exact pm_b8_in _ | (unfold pm_inI; split <;> omega)) (by first | (unfold pm_inI; omega) | exact pm_and_in _ _ | exact pm_shr_in _ _ | exact pm_or_in _ _ | exact pm_xor_in _ _ | exact pm_shl_in _ _ | exact pm_cmp_in _ _ | exact pm_b8_in _ | (unfold pm_inI; split <;> omega)) (fun h1 => ?_) (fun h1 => ?_)
        · replace h1 : (i : Int) ≤ (a : Int) := h1
          refine g_aload_n lk_106_35 rfl ?_
          refine g_getfield lk_106_36 rfl (lay.on (by decide) rfl) (v := ((77 : Nat) : Int)) (lay.rf rfl) ?_
          refine g_iload lk_106_39 rfl ?_
          refine g_iload_n lk_106_41 rfl ?_
          refine g_iload_n lk_106_42 rfl ?_
          refine g_virtual (p := 77) (Qc := _) lk_106_43 rfl (Nat.le_of_ble_eq_true rfl) rfl rfl (lay.on (by decide) rfl) (Nat.le_of_ble_eq_true rfl) (Nat.le_of_ble_eq_true rfl) (Nat.zero_le _) (Nat.zero_le _) (sy) ?_
          rintro _ N2 ⟨rfl, hN2⟩
          rw [hN2]
          show Wp _ 106 46 [(2, ((76 : Nat) : Int)), (0, (r : Int)), (0, (c : Int)), (0, (i : Int)), (0, (k : Int)), (0, (a : Int))] [(0, 0)] M _ _ _
          refine g_if (t := 53) lk_106_46 rfl (by first | (unfold pm_inI; omega) | exact pm_and_in _ _ | exact pm_shr_in _ _ | exact pm_or_in _ _ | exact pm_xor_in _ _ | exact pm_shl_in _ _ | exact pm_cmp_in _ _ | exact pm_b8_in _ | (unfold pm_inI; split <;> omega)) (fun _ => ?_) (fun h => absurd (show (0 : Int) = (0 : Int) by omega) h)
          refine g_iconst lk_106_53 ?_
          refine g_ireturn lk_106_54 (fun h => absurd h (by decide)) ?_
          rw [hQ]
          exact ⟨by rw [← e, ← hk, if_neg q], rfl⟩
        · replace h1 : ¬ ((i : Int) ≤ (a : Int)) := h1
          omega
    | succ n ih =>
      intro a k ha hk
      have kl : k < L.length := by rw [hk]; exact (wn_in hD (r := r) (c := c) a (by omega)).2.1
      have k0 : (ndA L k).1 ≠ 0 := by rw [hk]; exact wn_go hD (by omega)
      have nx := nxt_ok hD (r := r) (c := c) kl k0
      have ch := c_Told_childAt2 (d := d) (mc := 0) (ms := 0) lay hD hct hL kl k0 hr hc
      obtain ⟨m, hm⟩ : ∃ m, m = nxt L r c k := ⟨_, rfl⟩
      rw [← hm] at nx ch
      refine g_iload lk_106_6 rfl ?_
      refine g_iload_n lk_106_8 rfl ?_
      refine g_icmp (t := 35) lk_106_9 rfl (by first | (unfold pm_inI; omega) | exact pm_and_in _ _ | exact pm_shr_in _ _ | exact pm_or_in _ _ | exact pm_xor_in _ _ | exact pm_shl_in _ _ | exact pm_cmp_in _ _ | exact pm_b8_in _ | (unfold pm_inI; split <;> omega)) (by first | (unfold pm_inI; omega) | exact pm_and_in _ _ | exact pm_shr_in _ _ | exact pm_or_in _ _ | exact pm_xor_in _ _ | exact pm_shl_in _ _ | exact pm_cmp_in _ _ | exact pm_b8_in _ | (unfold pm_inI; split <;> omega)) (fun h1 => ?_) (fun h1 => ?_)
      · replace h1 : (i : Int) ≤ (a : Int) := h1
        omega
      · replace h1 : ¬ ((i : Int) ≤ (a : Int)) := h1
        refine g_iload lk_106_12 rfl ?_
        refine g_bipush lk_106_14 ?_
        refine g_icmp (t := 35) lk_106_16 rfl (by first | (unfold pm_inI; omega) | exact pm_and_in _ _ | exact pm_shr_in _ _ | exact pm_or_in _ _ | exact pm_xor_in _ _ | exact pm_shl_in _ _ | exact pm_cmp_in _ _ | exact pm_b8_in _ | (unfold pm_inI; split <;> omega)) (by first | (unfold pm_inI; omega) | exact pm_and_in _ _ | exact pm_shr_in _ _ | exact pm_or_in _ _ | exact pm_xor_in _ _ | exact pm_shl_in _ _ | exact pm_cmp_in _ _ | exact pm_b8_in _ | (unfold pm_inI; split <;> omega)) (fun h2 => ?_) (fun h2 => ?_)
        · replace h2 : 9 ≤ (a : Int) := h2
          omega
        · replace h2 : ¬ (9 ≤ (a : Int)) := h2
          refine g_aload_n lk_106_19 rfl ?_
          refine g_iload lk_106_20 rfl ?_
          refine g_iload_n lk_106_22 rfl ?_
          refine g_iload_n lk_106_23 rfl ?_
          refine g_virtual (p := 76) (Qc := _) lk_106_24 rfl (Nat.le_of_ble_eq_true rfl) rfl rfl (lay.on (by decide) rfl) (Nat.le_of_ble_eq_true rfl) (Nat.le_of_ble_eq_true rfl) (Nat.zero_le _) (Nat.zero_le _) (ch) ?_
          rintro _ N3 ⟨rfl, hN3⟩
          rw [hN3]
          show Wp _ 106 27 [(2, ((76 : Nat) : Int)), (0, (r : Int)), (0, (c : Int)), (0, (i : Int)), (0, (k : Int)), (0, (a : Int))] [(0, (m : Int))] M _ _ _
          refine g_istore (ls' := [(2, ((76 : Nat) : Int)), (0, (r : Int)), (0, (c : Int)), (0, (i : Int)), (0, (m : Int)), (0, (a : Int))]) lk_106_27 rfl rfl ?_
          refine g_iinc (ls' := [(2, ((76 : Nat) : Int)), (0, (r : Int)), (0, (c : Int)), (0, (i : Int)), (0, (m : Int)), (0, ((a : Int) + 1))]) lk_106_29 rfl rfl rfl ?_
          refine g_goto (t := 6) lk_106_32 rfl ?_
          exact ih (a + 1) m (by omega) (by rw [hm, hk]; rfl)
  show Wp (d + 3) 106 0 [(2, ((76 : Nat) : Int)), (0, (r : Int)), (0, (c : Int)), (0, (i : Int)), (9, 0), (9, 0)] [] M mc ms Q
  refine g_iconst lk_106_0 ?_
  refine g_istore (ls' := [(2, ((76 : Nat) : Int)), (0, (r : Int)), (0, (c : Int)), (0, (i : Int)), (0, 0), (9, 0)]) lk_106_1 rfl rfl ?_
  refine g_iconst lk_106_3 ?_
  refine g_istore (ls' := [(2, ((76 : Nat) : Int)), (0, (r : Int)), (0, (c : Int)), (0, (i : Int)), (0, 0), (0, 0)]) lk_106_4 rfl rfl ?_
  exact loop i 0 0 (by omega) rfl
theorem c_Told_bitAt3 {d mc ms : Nat} {M : pm_M} (lay : Lay M) {L : List Nd} {dp : Nat → Nat} (hD : TrD L dp) (hct : pm_ct M 88 3 = (L.length : Int)) (hL : NdL M 89 90 91 L) {r c i : Nat} (hr : r < 6) (hc : c < 6) (hi : i < wl L r c 9 0) :
    pm_E (d + 3) 106 [(2, ((87 : Nat) : Int)), (0, (r : Int)), (0, (c : Int)), (0, (i : Int))] M mc ms (fun ρ M' => ρ = some (0, if yesAt L r c (wn L r c i) then 1 else 0) ∧ M' = M) := by
  obtain ⟨Q, hQ⟩ : ∃ Q : pm_Q, Q = (fun ρ M' => ρ = some (0, if yesAt L r c (wn L r c i) then 1 else 0) ∧ M' = M) := ⟨_, rfl⟩
  rw [← hQ]
  have w9 := wl_9 L r c 9 0
  have l31 := hD.2.1
  have loop : ∀ (n a k : Nat), a + n = i → k = wn L r c a → Wp (d + 3) 106 6 [(2, ((87 : Nat) : Int)), (0, (r : Int)), (0, (c : Int)), (0, (i : Int)), (0, (k : Int)), (0, (a : Int))] [] M mc ms Q := by
    intro n
    induction n with
    | zero =>
      intro a k ha hk
      have e : a = i := by omega
      have kl : k < L.length := by rw [hk]; exact (wn_in hD (r := r) (c := c) a (by omega)).2.1
      have sy := c_Nodes_saysYes3 (d := d + 1) (mc := 0) (ms := 0) lay hD hL kl hr hc
      rw [hk, e] at sy
      rw [← e, ← hk] at sy
      by_cases q : yesAt L r c k = true
      · rw [if_pos q] at sy
        refine g_iload lk_106_6 rfl ?_
        refine g_iload_n lk_106_8 rfl ?_
        refine g_icmp (t := 35) lk_106_9 rfl (by first | (unfold pm_inI; omega) | exact pm_and_in _ _ | exact pm_shr_in _ _ | exact pm_or_in _ _ | exact pm_xor_in _ _ | exact pm_shl_in _ _ | exact pm_cmp_in _ _ | exact pm_b8_in _ | (unfold pm_inI; split <;> omega)) (by first | (unfold pm_inI; omega) | exact pm_and_in _ _ | exact pm_shr_in _ _ | exact pm_or_in _ _ | exact pm_xor_in _ _ | exact pm_shl_in _ _ | exact pm_cmp_in _ _ | exact pm_b8_in _ | (unfold pm_inI; split <;> omega)) (fun h1 => ?_) (fun h1 => ?_)
        · replace h1 : (i : Int) ≤ (a : Int) := h1
          refine g_aload_n lk_106_35 rfl ?_
          refine g_getfield lk_106_36 rfl (lay.on (by decide) rfl) (v := ((88 : Nat) : Int)) (lay.rf rfl) ?_
          refine g_iload lk_106_39 rfl ?_
          refine g_iload_n lk_106_41 rfl ?_
          refine g_iload_n lk_106_42 rfl ?_
          refine g_virtual (p := 88) (Qc := _) lk_106_43 rfl (Nat.le_of_ble_eq_true rfl) rfl rfl (lay.on (by decide) rfl) (Nat.le_of_ble_eq_true rfl) (Nat.le_of_ble_eq_true rfl) (Nat.zero_le _) (Nat.zero_le _) (sy) ?_
          rintro _ N2 ⟨rfl, hN2⟩
          rw [hN2]
          show Wp _ 106 46 [(2, ((87 : Nat) : Int)), (0, (r : Int)), (0, (c : Int)), (0, (i : Int)), (0, (k : Int)), (0, (a : Int))] [(0, 1)] M _ _ _
          refine g_if (t := 53) lk_106_46 rfl (by first | (unfold pm_inI; omega) | exact pm_and_in _ _ | exact pm_shr_in _ _ | exact pm_or_in _ _ | exact pm_xor_in _ _ | exact pm_shl_in _ _ | exact pm_cmp_in _ _ | exact pm_b8_in _ | (unfold pm_inI; split <;> omega)) (fun h => absurd h (show ¬ ((1 : Int) = (0 : Int)) by omega)) (fun _ => ?_)
          refine g_iconst lk_106_49 ?_
          refine g_goto (t := 54) lk_106_50 rfl ?_
          refine g_ireturn lk_106_54 (fun h => absurd h (by decide)) ?_
          rw [hQ]
          exact ⟨by rw [← e, ← hk, if_pos q], rfl⟩
        · replace h1 : ¬ ((i : Int) ≤ (a : Int)) := h1
          omega
      · rw [if_neg q] at sy
        refine g_iload lk_106_6 rfl ?_
        refine g_iload_n lk_106_8 rfl ?_
        refine g_icmp (t := 35) lk_106_9 rfl (by first | (unfold pm_inI; omega) | exact pm_and_in _ _ | exact pm_shr_in _ _ | exact pm_or_in _ _ | exact pm_xor_in _ _ | exact pm_shl_in _ _ | exact pm_cmp_in _ _ | exact pm_b8_in _ | (unfold pm_inI; split <;> omega)) (by first | (unfold pm_inI; omega) | exact pm_and_in _ _ | exact pm_shr_in _ _ | exact pm_or_in _ _ | exact pm_xor_in _ _ | exact pm_shl_in _ _ | exact pm_cmp_in _ _ | exact pm_b8_in _ | (unfold pm_inI; split <;> omega)) (fun h1 => ?_) (fun h1 => ?_)
        · replace h1 : (i : Int) ≤ (a : Int) := h1
          refine g_aload_n lk_106_35 rfl ?_
          refine g_getfield lk_106_36 rfl (lay.on (by decide) rfl) (v := ((88 : Nat) : Int)) (lay.rf rfl) ?_
          refine g_iload lk_106_39 rfl ?_
          refine g_iload_n lk_106_41 rfl ?_
          refine g_iload_n lk_106_42 rfl ?_
          refine g_virtual (p := 88) (Qc := _) lk_106_43 rfl (Nat.le_of_ble_eq_true rfl) rfl rfl (lay.on (by decide) rfl) (Nat.le_of_ble_eq_true rfl) (Nat.le_of_ble_eq_true rfl) (Nat.zero_le _) (Nat.zero_le _) (sy) ?_
          rintro _ N2 ⟨rfl, hN2⟩
          rw [hN2]
          show Wp _ 106 46 [(2, ((87 : Nat) : Int)), (0, (r : Int)), (0, (c : Int)), (0, (i : Int)), (0, (k : Int)), (0, (a : Int))] [(0, 0)] M _ _ _
          refine g_if (t := 53) lk_106_46 rfl (by first | (unfold pm_inI; omega) | exact pm_and_in _ _ | exact pm_shr_in _ _ | exact pm_or_in _ _ | exact pm_xor_in _ _ | exact pm_shl_in _ _ | exact pm_cmp_in _ _ | exact pm_b8_in _ | (unfold pm_inI; split <;> omega)) (fun _ => ?_) (fun h => absurd (show (0 : Int) = (0 : Int) by omega) h)
          refine g_iconst lk_106_53 ?_
          refine g_ireturn lk_106_54 (fun h => absurd h (by decide)) ?_
          rw [hQ]
          exact ⟨by rw [← e, ← hk, if_neg q], rfl⟩
        · replace h1 : ¬ ((i : Int) ≤ (a : Int)) := h1
          omega
    | succ n ih =>
      intro a k ha hk
      have kl : k < L.length := by rw [hk]; exact (wn_in hD (r := r) (c := c) a (by omega)).2.1
      have k0 : (ndA L k).1 ≠ 0 := by rw [hk]; exact wn_go hD (by omega)
      have nx := nxt_ok hD (r := r) (c := c) kl k0
      have ch := c_Told_childAt3 (d := d) (mc := 0) (ms := 0) lay hD hct hL kl k0 hr hc
      obtain ⟨m, hm⟩ : ∃ m, m = nxt L r c k := ⟨_, rfl⟩
      rw [← hm] at nx ch
      refine g_iload lk_106_6 rfl ?_
      refine g_iload_n lk_106_8 rfl ?_
      refine g_icmp (t := 35) lk_106_9 rfl (by first | (unfold pm_inI; omega) | exact pm_and_in _ _ | exact pm_shr_in _ _ | exact pm_or_in _ _ | exact pm_xor_in _ _ | exact pm_shl_in _ _ | exact pm_cmp_in _ _ | exact pm_b8_in _ | (unfold pm_inI; split <;> omega)) (by first | (unfold pm_inI; omega) | exact pm_and_in _ _ | exact pm_shr_in _ _ | exact pm_or_in _ _ | exact pm_xor_in _ _ | exact pm_shl_in _ _ | exact pm_cmp_in _ _ | exact pm_b8_in _ | (unfold pm_inI; split <;> omega)) (fun h1 => ?_) (fun h1 => ?_)
      · replace h1 : (i : Int) ≤ (a : Int) := h1
        omega
      · replace h1 : ¬ ((i : Int) ≤ (a : Int)) := h1
        refine g_iload lk_106_12 rfl ?_
        refine g_bipush lk_106_14 ?_
        refine g_icmp (t := 35) lk_106_16 rfl (by first | (unfold pm_inI; omega) | exact pm_and_in _ _ | exact pm_shr_in _ _ | exact pm_or_in _ _ | exact pm_xor_in _ _ | exact pm_shl_in _ _ | exact pm_cmp_in _ _ | exact pm_b8_in _ | (unfold pm_inI; split <;> omega)) (by first | (unfold pm_inI; omega) | exact pm_and_in _ _ | exact pm_shr_in _ _ | exact pm_or_in _ _ | exact pm_xor_in _ _ | exact pm_shl_in _ _ | exact pm_cmp_in _ _ | exact pm_b8_in _ | (unfold pm_inI; split <;> omega)) (fun h2 => ?_) (fun h2 => ?_)
        · replace h2 : 9 ≤ (a : Int) := h2
          omega
        · replace h2 : ¬ (9 ≤ (a : Int)) := h2
          refine g_aload_n lk_106_19 rfl ?_
          refine g_iload lk_106_20 rfl ?_
          refine g_iload_n lk_106_22 rfl ?_
          refine g_iload_n lk_106_23 rfl ?_
          refine g_virtual (p := 87) (Qc := _) lk_106_24 rfl (Nat.le_of_ble_eq_true rfl) rfl rfl (lay.on (by decide) rfl) (Nat.le_of_ble_eq_true rfl) (Nat.le_of_ble_eq_true rfl) (Nat.zero_le _) (Nat.zero_le _) (ch) ?_
          rintro _ N3 ⟨rfl, hN3⟩
          rw [hN3]
          show Wp _ 106 27 [(2, ((87 : Nat) : Int)), (0, (r : Int)), (0, (c : Int)), (0, (i : Int)), (0, (k : Int)), (0, (a : Int))] [(0, (m : Int))] M _ _ _
          refine g_istore (ls' := [(2, ((87 : Nat) : Int)), (0, (r : Int)), (0, (c : Int)), (0, (i : Int)), (0, (m : Int)), (0, (a : Int))]) lk_106_27 rfl rfl ?_
          refine g_iinc (ls' := [(2, ((87 : Nat) : Int)), (0, (r : Int)), (0, (c : Int)), (0, (i : Int)), (0, (m : Int)), (0, ((a : Int) + 1))]) lk_106_29 rfl rfl rfl ?_
          refine g_goto (t := 6) lk_106_32 rfl ?_
          exact ih (a + 1) m (by omega) (by rw [hm, hk]; rfl)
  show Wp (d + 3) 106 0 [(2, ((87 : Nat) : Int)), (0, (r : Int)), (0, (c : Int)), (0, (i : Int)), (9, 0), (9, 0)] [] M mc ms Q
  refine g_iconst lk_106_0 ?_
  refine g_istore (ls' := [(2, ((87 : Nat) : Int)), (0, (r : Int)), (0, (c : Int)), (0, (i : Int)), (0, 0), (9, 0)]) lk_106_1 rfl rfl ?_
  refine g_iconst lk_106_3 ?_
  refine g_istore (ls' := [(2, ((87 : Nat) : Int)), (0, (r : Int)), (0, (c : Int)), (0, (i : Int)), (0, 0), (0, 0)]) lk_106_4 rfl rfl ?_
  exact loop i 0 0 (by omega) rfl
