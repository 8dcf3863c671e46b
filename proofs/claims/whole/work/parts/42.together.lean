/-! ===== groups: lines that go together ===== -/
def togA (T : Tab) (s n : Nat) : Bool := (List.range n).all (fun k => decide (pop (vIn T s (2 ^ k)) < 2))
def togB (T : Tab) (s n : Nat) : Bool := (List.range n).all (fun k => decide (pop (vIn T (2 ^ k) s) < 2))
theorem togA_iff (T : Tab) (s n : Nat) : togA T s n = true ↔ ∀ k, k < n → pop (vIn T s (2 ^ k)) < 2 := by unfold togA; simp
theorem togB_iff (T : Tab) (s n : Nat) : togB T s n = true ↔ ∀ k, k < n → pop (vIn T (2 ^ k) s) < 2 := by unfold togB; simp
theorem pop_12 (s : Nat) : pop s ≤ 12 := by
  rw [pop_sm]
  exact Nat.le_trans (sm_le (g := fun _ => 1) (fun i _ => bt_1 s i)) (by decide)
set_option maxHeartbeats 4000000 in
theorem c_Mo_goTogetherA {d mc ms : Nat} {M : pm_M} (lay : Lay M) {T : Tab} (hT : TabOK T) (hM : MoAt M T) {s : Nat} (hs : s < 64) :
    pm_E (d + 2) 230 [(2, ((116 : Nat) : Int)), (0, 0), (0, (s : Int))] M mc ms (fun ρ M' => ρ = some (0, if togA T s (tC T) = true then 1 else 0) ∧ M' = M) := by
  obtain ⟨Q, hQ⟩ : ∃ Q : pm_Q, Q = (fun ρ M' => ρ = some (0, if togA T s (tC T) = true then 1 else 0) ∧ M' = M) := ⟨_, rfl⟩
  rw [← hQ]
  have hC := hT.2.1
  have loop : ∀ (n k : Nat) (v4 : pm_V), k + n = tC T → (∀ j, j < k → pop (vIn T s (2 ^ j)) < 2) → Wp (d + 2) 230 2 [(2, ((116 : Nat) : Int)), (0, 0), (0, (s : Int)), (0, (k : Int)), v4] [] M mc ms Q := by
    intro n
    induction n with
    | zero =>
      intro k v4 hk ht
      have ek : k = tC T := by omega
      refine g_iload_n lk_230_2 rfl ?_
      refine g_iload_n lk_230_3 rfl ?_
      refine g_if (t := 14) lk_230_4 rfl (by first | (unfold pm_inI; omega) | exact pm_and_in _ _ | exact pm_shr_in _ _ | exact pm_or_in _ _ | exact pm_xor_in _ _ | exact pm_shl_in _ _ | exact pm_cmp_in _ _ | exact pm_b8_in _ | (unfold pm_inI; split <;> omega)) (fun _ => ?_) (fun h => absurd (show (0 : Int) = (0 : Int) by omega) h)
      refine g_aload_n lk_230_14 rfl ?_
      refine m_getfield (u := []) (M := M) lk_230_15 rfl (lay.on (by decide) rfl) (v := (tC T : Int)) hM.2.1 ?_
      refine g_icmp (t := 63) lk_230_18 rfl (by first | (unfold pm_inI; omega) | exact pm_and_in _ _ | exact pm_shr_in _ _ | exact pm_or_in _ _ | exact pm_xor_in _ _ | exact pm_shl_in _ _ | exact pm_cmp_in _ _ | exact pm_b8_in _ | (unfold pm_inI; split <;> omega)) (by first | (unfold pm_inI; omega) | exact pm_and_in _ _ | exact pm_shr_in _ _ | exact pm_or_in _ _ | exact pm_xor_in _ _ | exact pm_shl_in _ _ | exact pm_cmp_in _ _ | exact pm_b8_in _ | (unfold pm_inI; split <;> omega)) (fun h1 => ?_) (fun h1 => ?_)
      · replace h1 : (tC T : Int) ≤ (k : Int) := h1
        refine g_iconst lk_230_63 ?_
        refine g_ireturn lk_230_64 (fun _ => by omega) ?_
        rw [hQ, if_pos ((togA_iff _ _ _).mpr (by rw [← ek]; exact ht))]
        exact ⟨rfl, rfl⟩
      · replace h1 : ¬ ((tC T : Int) ≤ (k : Int)) := h1
        refine g_iload_n lk_230_21 rfl ?_
        refine g_if (t := 36) lk_230_22 rfl (by first | (unfold pm_inI; omega) | exact pm_and_in _ _ | exact pm_shr_in _ _ | exact pm_or_in _ _ | exact pm_xor_in _ _ | exact pm_shl_in _ _ | exact pm_cmp_in _ _ | exact pm_b8_in _ | (unfold pm_inI; split <;> omega)) (fun _ => ?_) (fun h => absurd (show (0 : Int) = (0 : Int) by omega) h)
        refine g_aload_n lk_230_36 rfl ?_
        refine g_iload_n lk_230_37 rfl ?_
        refine g_iconst lk_230_38 ?_
        refine g_iload_n lk_230_39 rfl ?_
        refine g_ishl lk_230_40 ?_
        omega
    | succ n ih =>
      intro k v4 hk ht
      have k2 : 2 ^ k < 64 := Nat.lt_of_lt_of_le (Nat.pow_lt_pow_right (by omega) (by omega : k < 6)) (by decide)
      have k3 : pm_shl 1 (k : Int) = ((2 ^ k : Nat) : Int) := pm_shl_1 (by omega)
      have k4 := vIn_lt T s (2 ^ k)
      have k5 := pop_12 (vIn T s (2 ^ k))
      refine g_iload_n lk_230_2 rfl ?_
      refine g_iload_n lk_230_3 rfl ?_
      refine g_if (t := 14) lk_230_4 rfl (by first | (unfold pm_inI; omega) | exact pm_and_in _ _ | exact pm_shr_in _ _ | exact pm_or_in _ _ | exact pm_xor_in _ _ | exact pm_shl_in _ _ | exact pm_cmp_in _ _ | exact pm_b8_in _ | (unfold pm_inI; split <;> omega)) (fun _ => ?_) (fun h => absurd (show (0 : Int) = (0 : Int) by omega) h)
      refine g_aload_n lk_230_14 rfl ?_
      refine m_getfield (u := []) (M := M) lk_230_15 rfl (lay.on (by decide) rfl) (v := (tC T : Int)) hM.2.1 ?_
      refine g_icmp (t := 63) lk_230_18 rfl (by first | (unfold pm_inI; omega) | exact pm_and_in _ _ | exact pm_shr_in _ _ | exact pm_or_in _ _ | exact pm_xor_in _ _ | exact pm_shl_in _ _ | exact pm_cmp_in _ _ | exact pm_b8_in _ | (unfold pm_inI; split <;> omega)) (by first | (unfold pm_inI; omega) | exact pm_and_in _ _ | exact pm_shr_in _ _ | exact pm_or_in _ _ | exact pm_xor_in _ _ | exact pm_shl_in _ _ | exact pm_cmp_in _ _ | exact pm_b8_in _ | (unfold pm_inI; split <;> omega)) (fun h1 => ?_) (fun h1 => ?_)
      · replace h1 : (tC T : Int) ≤ (k : Int) := h1
        refine g_iconst lk_230_63 ?_
        refine g_ireturn lk_230_64 (fun _ => by omega) ?_
        omega
      · replace h1 : ¬ ((tC T : Int) ≤ (k : Int)) := h1
        refine g_iload_n lk_230_21 rfl ?_
        refine g_if (t := 36) lk_230_22 rfl (by first | (unfold pm_inI; omega) | exact pm_and_in _ _ | exact pm_shr_in _ _ | exact pm_or_in _ _ | exact pm_xor_in _ _ | exact pm_shl_in _ _ | exact pm_cmp_in _ _ | exact pm_b8_in _ | (unfold pm_inI; split <;> omega)) (fun _ => ?_) (fun h => absurd (show (0 : Int) = (0 : Int) by omega) h)
        refine g_aload_n lk_230_36 rfl ?_
        refine g_iload_n lk_230_37 rfl ?_
        refine g_iconst lk_230_38 ?_
        refine g_iload_n lk_230_39 rfl ?_
        refine g_ishl lk_230_40 ?_
        refine g_virtual (p := 116) (Qc := _) lk_230_41 rfl (Nat.le_of_ble_eq_true rfl) rfl rfl (lay.on (by decide) rfl) (Nat.le_of_ble_eq_true rfl) (Nat.le_of_ble_eq_true rfl) (Nat.zero_le _) (Nat.zero_le _) ((by rw [k3]; exact c_Mo_valuesIn lay hT hM hs k2)) ?_
        rintro _ N2 ⟨rfl, hN2⟩
        rw [hN2]
        show Wp _ 230 44 [(2, ((116 : Nat) : Int)), (0, 0), (0, (s : Int)), (0, (k : Int)), v4] [(0, ((vIn T s (2 ^ k) : Nat) : Int))] M _ _ _
        refine g_istore (ls' := [(2, ((116 : Nat) : Int)), (0, 0), (0, (s : Int)), (0, (k : Int)), (0, ((vIn T s (2 ^ k) : Nat) : Int))]) lk_230_44 rfl rfl ?_
        refine g_iload lk_230_46 rfl ?_
        refine g_static (Qc := _) lk_230_48 (by decide) rfl (Nat.le_of_ble_eq_true rfl) rfl rfl (Nat.le_of_ble_eq_true rfl) (Nat.le_of_ble_eq_true rfl) (Nat.zero_le _) (Nat.zero_le _) (c_Mo_bits (by omega)) ?_
        rintro _ N3 ⟨rfl, hN3⟩
        rw [hN3]
        show Wp _ 230 51 [(2, ((116 : Nat) : Int)), (0, 0), (0, (s : Int)), (0, (k : Int)), (0, ((vIn T s (2 ^ k) : Nat) : Int))] [(0, (pop (vIn T s (2 ^ k)) : Int))] M _ _ _
        refine g_iconst lk_230_51 ?_
        refine g_icmp (t := 57) lk_230_52 rfl (by first | (unfold pm_inI; omega) | exact pm_and_in _ _ | exact pm_shr_in _ _ | exact pm_or_in _ _ | exact pm_xor_in _ _ | exact pm_shl_in _ _ | exact pm_cmp_in _ _ | exact pm_b8_in _ | (unfold pm_inI; split <;> omega)) (by first | (unfold pm_inI; omega) | exact pm_and_in _ _ | exact pm_shr_in _ _ | exact pm_or_in _ _ | exact pm_xor_in _ _ | exact pm_shl_in _ _ | exact pm_cmp_in _ _ | exact pm_b8_in _ | (unfold pm_inI; split <;> omega)) (fun h4 => ?_) (fun h4 => ?_)
        · replace h4 : (pop (vIn T s (2 ^ k)) : Int) ≤ 1 := h4
          refine g_iinc (ls' := [(2, ((116 : Nat) : Int)), (0, 0), (0, (s : Int)), (0, ((k : Int) + 1)), (0, ((vIn T s (2 ^ k) : Nat) : Int))]) lk_230_57 rfl rfl rfl ?_
          refine g_goto (t := 2) lk_230_60 rfl ?_
          refine ih (k + 1) _ (by omega) (fun j hj => ?_)
          by_cases e : j = k
          · subst e; omega
          · exact ht j (by omega)
        · replace h4 : ¬ ((pop (vIn T s (2 ^ k)) : Int) ≤ 1) := h4
          refine g_iconst lk_230_55 ?_
          refine g_ireturn lk_230_56 (fun _ => by omega) ?_
          rw [hQ, if_neg (fun q => by have := (togA_iff _ _ _).mp q k (by omega); omega)]
          exact ⟨rfl, rfl⟩
  show Wp (d + 2) 230 0 [(2, ((116 : Nat) : Int)), (0, 0), (0, (s : Int)), (9, 0), (9, 0)] [] M mc ms Q
  refine g_iconst lk_230_0 ?_
  refine g_istore_n (ls' := [(2, ((116 : Nat) : Int)), (0, 0), (0, (s : Int)), (0, 0), (9, 0)]) lk_230_1 rfl rfl ?_
  exact loop (tC T) 0 _ (by omega) (fun j hj => absurd hj (Nat.not_lt_zero j))
set_option maxHeartbeats 4000000 in
theorem c_Mo_goTogetherB {d mc ms : Nat} {M : pm_M} (lay : Lay M) {T : Tab} (hT : TabOK T) (hM : MoAt M T) {s : Nat} (hs : s < 64) :
    pm_E (d + 2) 230 [(2, ((116 : Nat) : Int)), (0, 1), (0, (s : Int))] M mc ms (fun ρ M' => ρ = some (0, if togB T s (tR T) = true then 1 else 0) ∧ M' = M) := by
  obtain ⟨Q, hQ⟩ : ∃ Q : pm_Q, Q = (fun ρ M' => ρ = some (0, if togB T s (tR T) = true then 1 else 0) ∧ M' = M) := ⟨_, rfl⟩
  rw [← hQ]
  have hC := hT.1
  have loop : ∀ (n k : Nat) (v4 : pm_V), k + n = tR T → (∀ j, j < k → pop (vIn T (2 ^ j) s) < 2) → Wp (d + 2) 230 2 [(2, ((116 : Nat) : Int)), (0, 1), (0, (s : Int)), (0, (k : Int)), v4] [] M mc ms Q := by
    intro n
    induction n with
    | zero =>
      intro k v4 hk ht
      have ek : k = tR T := by omega
      refine g_iload_n lk_230_2 rfl ?_
      refine g_iload_n lk_230_3 rfl ?_
      refine g_if (t := 14) lk_230_4 rfl (by first | (unfold pm_inI; omega) | exact pm_and_in _ _ | exact pm_shr_in _ _ | exact pm_or_in _ _ | exact pm_xor_in _ _ | exact pm_shl_in _ _ | exact pm_cmp_in _ _ | exact pm_b8_in _ | (unfold pm_inI; split <;> omega)) (fun h => absurd h (show ¬ ((1 : Int) = (0 : Int)) by omega)) (fun _ => ?_)
      refine g_aload_n lk_230_7 rfl ?_
      refine m_getfield (u := []) (M := M) lk_230_8 rfl (lay.on (by decide) rfl) (v := (tR T : Int)) hM.1 ?_
      refine g_goto (t := 18) lk_230_11 rfl ?_
      refine g_icmp (t := 63) lk_230_18 rfl (by first | (unfold pm_inI; omega) | exact pm_and_in _ _ | exact pm_shr_in _ _ | exact pm_or_in _ _ | exact pm_xor_in _ _ | exact pm_shl_in _ _ | exact pm_cmp_in _ _ | exact pm_b8_in _ | (unfold pm_inI; split <;> omega)) (by first | (unfold pm_inI; omega) | exact pm_and_in _ _ | exact pm_shr_in _ _ | exact pm_or_in _ _ | exact pm_xor_in _ _ | exact pm_shl_in _ _ | exact pm_cmp_in _ _ | exact pm_b8_in _ | (unfold pm_inI; split <;> omega)) (fun h1 => ?_) (fun h1 => ?_)
      · replace h1 : (tR T : Int) ≤ (k : Int) := h1
        refine g_iconst lk_230_63 ?_
        refine g_ireturn lk_230_64 (fun _ => by omega) ?_
        rw [hQ, if_pos ((togB_iff _ _ _).mpr (by rw [← ek]; exact ht))]
        exact ⟨rfl, rfl⟩
      · replace h1 : ¬ ((tR T : Int) ≤ (k : Int)) := h1
        refine g_iload_n lk_230_21 rfl ?_
        refine g_if (t := 36) lk_230_22 rfl (by first | (unfold pm_inI; omega) | exact pm_and_in _ _ | exact pm_shr_in _ _ | exact pm_or_in _ _ | exact pm_xor_in _ _ | exact pm_shl_in _ _ | exact pm_cmp_in _ _ | exact pm_b8_in _ | (unfold pm_inI; split <;> omega)) (fun h => absurd h (show ¬ ((1 : Int) = (0 : Int)) by omega)) (fun _ => ?_)
        refine g_aload_n lk_230_25 rfl ?_
        refine g_iconst lk_230_26 ?_
        refine g_iload_n lk_230_27 rfl ?_
        refine g_ishl lk_230_28 ?_
        refine g_iload_n lk_230_29 rfl ?_
        omega
    | succ n ih =>
      intro k v4 hk ht
      have k2 : 2 ^ k < 64 := Nat.lt_of_lt_of_le (Nat.pow_lt_pow_right (by omega) (by omega : k < 6)) (by decide)
      have k3 : pm_shl 1 (k : Int) = ((2 ^ k : Nat) : Int) := pm_shl_1 (by omega)
      have k4 := vIn_lt T (2 ^ k) s
      have k5 := pop_12 (vIn T (2 ^ k) s)
      refine g_iload_n lk_230_2 rfl ?_
      refine g_iload_n lk_230_3 rfl ?_
      refine g_if (t := 14) lk_230_4 rfl (by first | (unfold pm_inI; omega) | exact pm_and_in _ _ | exact pm_shr_in _ _ | exact pm_or_in _ _ | exact pm_xor_in _ _ | exact pm_shl_in _ _ | exact pm_cmp_in _ _ | exact pm_b8_in _ | (unfold pm_inI; split <;> omega)) (fun h => absurd h (show ¬ ((1 : Int) = (0 : Int)) by omega)) (fun _ => ?_)
      refine g_aload_n lk_230_7 rfl ?_
      refine m_getfield (u := []) (M := M) lk_230_8 rfl (lay.on (by decide) rfl) (v := (tR T : Int)) hM.1 ?_
      refine g_goto (t := 18) lk_230_11 rfl ?_
      refine g_icmp (t := 63) lk_230_18 rfl (by first | (unfold pm_inI; omega) | exact pm_and_in _ _ | exact pm_shr_in _ _ | exact pm_or_in _ _ | exact pm_xor_in _ _ | exact pm_shl_in _ _ | exact pm_cmp_in _ _ | exact pm_b8_in _ | (unfold pm_inI; split <;> omega)) (by first | (unfold pm_inI; omega) | exact pm_and_in _ _ | exact pm_shr_in _ _ | exact pm_or_in _ _ | exact pm_xor_in _ _ | exact pm_shl_in _ _ | exact pm_cmp_in _ _ | exact pm_b8_in _ | (unfold pm_inI; split <;> omega)) (fun h1 => ?_) (fun h1 => ?_)
      · replace h1 : (tR T : Int) ≤ (k : Int) := h1
        refine g_iconst lk_230_63 ?_
        refine g_ireturn lk_230_64 (fun _ => by omega) ?_
        omega
      · replace h1 : ¬ ((tR T : Int) ≤ (k : Int)) := h1
        refine g_iload_n lk_230_21 rfl ?_
        refine g_if (t := 36) lk_230_22 rfl (by first | (unfold pm_inI; omega) | exact pm_and_in _ _ | exact pm_shr_in _ _ | exact pm_or_in _ _ | exact pm_xor_in _ _ | exact pm_shl_in _ _ | exact pm_cmp_in _ _ | exact pm_b8_in _ | (unfold pm_inI; split <;> omega)) (fun h => absurd h (show ¬ ((1 : Int) = (0 : Int)) by omega)) (fun _ => ?_)
        refine g_aload_n lk_230_25 rfl ?_
        refine g_iconst lk_230_26 ?_
        refine g_iload_n lk_230_27 rfl ?_
        refine g_ishl lk_230_28 ?_
        refine g_iload_n lk_230_29 rfl ?_
        refine g_virtual (p := 116) (Qc := _) lk_230_30 rfl (Nat.le_of_ble_eq_true rfl) rfl rfl (lay.on (by decide) rfl) (Nat.le_of_ble_eq_true rfl) (Nat.le_of_ble_eq_true rfl) (Nat.zero_le _) (Nat.zero_le _) ((by rw [k3]; exact c_Mo_valuesIn lay hT hM k2 hs)) ?_
        rintro _ N2 ⟨rfl, hN2⟩
        rw [hN2]
        show Wp _ 230 33 [(2, ((116 : Nat) : Int)), (0, 1), (0, (s : Int)), (0, (k : Int)), v4] [(0, ((vIn T (2 ^ k) s : Nat) : Int))] M _ _ _
        refine g_goto (t := 44) lk_230_33 rfl ?_
        refine g_istore (ls' := [(2, ((116 : Nat) : Int)), (0, 1), (0, (s : Int)), (0, (k : Int)), (0, ((vIn T (2 ^ k) s : Nat) : Int))]) lk_230_44 rfl rfl ?_
        refine g_iload lk_230_46 rfl ?_
        refine g_static (Qc := _) lk_230_48 (by decide) rfl (Nat.le_of_ble_eq_true rfl) rfl rfl (Nat.le_of_ble_eq_true rfl) (Nat.le_of_ble_eq_true rfl) (Nat.zero_le _) (Nat.zero_le _) (c_Mo_bits (by omega)) ?_
        rintro _ N3 ⟨rfl, hN3⟩
        rw [hN3]
        show Wp _ 230 51 [(2, ((116 : Nat) : Int)), (0, 1), (0, (s : Int)), (0, (k : Int)), (0, ((vIn T (2 ^ k) s : Nat) : Int))] [(0, (pop (vIn T (2 ^ k) s) : Int))] M _ _ _
        refine g_iconst lk_230_51 ?_
        refine g_icmp (t := 57) lk_230_52 rfl (by first | (unfold pm_inI; omega) | exact pm_and_in _ _ | exact pm_shr_in _ _ | exact pm_or_in _ _ | exact pm_xor_in _ _ | exact pm_shl_in _ _ | exact pm_cmp_in _ _ | exact pm_b8_in _ | (unfold pm_inI; split <;> omega)) (by first | (unfold pm_inI; omega) | exact pm_and_in _ _ | exact pm_shr_in _ _ | exact pm_or_in _ _ | exact pm_xor_in _ _ | exact pm_shl_in _ _ | exact pm_cmp_in _ _ | exact pm_b8_in _ | (unfold pm_inI; split <;> omega)) (fun h4 => ?_) (fun h4 => ?_)
        · replace h4 : (pop (vIn T (2 ^ k) s) : Int) ≤ 1 := h4
          refine g_iinc (ls' := [(2, ((116 : Nat) : Int)), (0, 1), (0, (s : Int)), (0, ((k : Int) + 1)), (0, ((vIn T (2 ^ k) s : Nat) : Int))]) lk_230_57 rfl rfl rfl ?_
          refine g_goto (t := 2) lk_230_60 rfl ?_
          refine ih (k + 1) _ (by omega) (fun j hj => ?_)
          by_cases e : j = k
          · subst e; omega
          · exact ht j (by omega)
        · replace h4 : ¬ ((pop (vIn T (2 ^ k) s) : Int) ≤ 1) := h4
          refine g_iconst lk_230_55 ?_
          refine g_ireturn lk_230_56 (fun _ => by omega) ?_
          rw [hQ, if_neg (fun q => by have := (togB_iff _ _ _).mp q k (by omega); omega)]
          exact ⟨rfl, rfl⟩
  show Wp (d + 2) 230 0 [(2, ((116 : Nat) : Int)), (0, 1), (0, (s : Int)), (9, 0), (9, 0)] [] M mc ms Q
  refine g_iconst lk_230_0 ?_
  refine g_istore_n (ls' := [(2, ((116 : Nat) : Int)), (0, 1), (0, (s : Int)), (0, 0), (9, 0)]) lk_230_1 rfl rfl ?_
  exact loop (tR T) 0 _ (by omega) (fun j hj => absurd hj (Nat.not_lt_zero j))
