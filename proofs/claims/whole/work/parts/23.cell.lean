/-! ===== cell, conflict ===== -/
def clash (a b : Nat) : Bool := a != b && (a != 10 && b != 10)
/-- the first of k from i on -/
def ffr (P : Nat → Bool) : Nat → Nat → Int
  | 0, _ => -1
  | k + 1, i => if P i then (i : Int) else ffr P k (i + 1)
theorem c_Table_has {d mc ms : Nat} {M : pm_M} (lay : Lay M) {t : Nat} (ht : t = 4 ∨ t = 24) {T : Tab} (hT : TabOK T) (hM : TbAt M t T) {r c : Int} (hr : pm_inI r) (hc : pm_inI c) :
    pm_E d 84 [(2, ((t : Nat) : Int)), (0, r), (0, c)] M mc ms (fun ρ M' => ρ = some (0, if (0 ≤ r ∧ r < tR T) ∧ (0 ≤ c ∧ c < tC T) then 1 else 0) ∧ M' = M) := by
  have h0 := hT.1
  have h9 := hT.2.1
  unfold pm_inI at hr hc
  show Wp d 84 0 [(2, ((t : Nat) : Int)), (0, r), (0, c)] [] M mc ms _
  refine g_iload_n lk_84_0 rfl ?_
  refine g_if (t := 28) lk_84_1 rfl (by first | (unfold pm_inI; omega) | exact pm_and_in _ _ | exact pm_shr_in _ _ | exact pm_or_in _ _ | exact pm_xor_in _ _ | exact pm_shl_in _ _ | exact pm_cmp_in _ _ | exact pm_b8_in _ | (unfold pm_inI; split <;> omega)) (fun h1 => ?_) (fun h1 => ?_)
  · replace h1 : r < 0 := h1
    refine g_iconst lk_84_28 ?_
    refine g_ireturn lk_84_29 (fun _ => by omega) ?_
    exact ⟨by rw [if_neg (by omega)], rfl⟩
  · replace h1 : ¬ (r < 0) := h1
    refine g_iload_n lk_84_4 rfl ?_
    refine g_aload_n lk_84_5 rfl ?_
    refine g_getfield lk_84_6 rfl (lay.tb ht).1 (v := (tR T : Int)) hM.1 ?_
    refine g_icmp (t := 28) lk_84_9 rfl (by first | (unfold pm_inI; omega) | exact pm_and_in _ _ | exact pm_shr_in _ _ | exact pm_or_in _ _ | exact pm_xor_in _ _ | exact pm_shl_in _ _ | exact pm_cmp_in _ _ | exact pm_b8_in _ | (unfold pm_inI; split <;> omega)) (by first | (unfold pm_inI; omega) | exact pm_and_in _ _ | exact pm_shr_in _ _ | exact pm_or_in _ _ | exact pm_xor_in _ _ | exact pm_shl_in _ _ | exact pm_cmp_in _ _ | exact pm_b8_in _ | (unfold pm_inI; split <;> omega)) (fun h2 => ?_) (fun h2 => ?_)
    · replace h2 : (tR T : Int) ≤ r := h2
      refine g_iconst lk_84_28 ?_
      refine g_ireturn lk_84_29 (fun _ => by omega) ?_
      exact ⟨by rw [if_neg (by omega)], rfl⟩
    · replace h2 : ¬ ((tR T : Int) ≤ r) := h2
      refine g_iload_n lk_84_12 rfl ?_
      refine g_if (t := 28) lk_84_13 rfl (by first | (unfold pm_inI; omega) | exact pm_and_in _ _ | exact pm_shr_in _ _ | exact pm_or_in _ _ | exact pm_xor_in _ _ | exact pm_shl_in _ _ | exact pm_cmp_in _ _ | exact pm_b8_in _ | (unfold pm_inI; split <;> omega)) (fun h3 => ?_) (fun h3 => ?_)
      · replace h3 : c < 0 := h3
        refine g_iconst lk_84_28 ?_
        refine g_ireturn lk_84_29 (fun _ => by omega) ?_
        exact ⟨by rw [if_neg (by omega)], rfl⟩
      · replace h3 : ¬ (c < 0) := h3
        refine g_iload_n lk_84_16 rfl ?_
        refine g_aload_n lk_84_17 rfl ?_
        refine g_getfield lk_84_18 rfl (lay.tb ht).1 (v := (tC T : Int)) hM.2.1 ?_
        refine g_icmp (t := 28) lk_84_21 rfl (by first | (unfold pm_inI; omega) | exact pm_and_in _ _ | exact pm_shr_in _ _ | exact pm_or_in _ _ | exact pm_xor_in _ _ | exact pm_shl_in _ _ | exact pm_cmp_in _ _ | exact pm_b8_in _ | (unfold pm_inI; split <;> omega)) (by first | (unfold pm_inI; omega) | exact pm_and_in _ _ | exact pm_shr_in _ _ | exact pm_or_in _ _ | exact pm_xor_in _ _ | exact pm_shl_in _ _ | exact pm_cmp_in _ _ | exact pm_b8_in _ | (unfold pm_inI; split <;> omega)) (fun h4 => ?_) (fun h4 => ?_)
        · replace h4 : (tC T : Int) ≤ c := h4
          refine g_iconst lk_84_28 ?_
          refine g_ireturn lk_84_29 (fun _ => by omega) ?_
          exact ⟨by rw [if_neg (by omega)], rfl⟩
        · replace h4 : ¬ ((tC T : Int) ≤ c) := h4
          refine g_iconst lk_84_24 ?_
          refine g_goto (t := 29) lk_84_25 rfl ?_
          refine g_ireturn lk_84_29 (fun _ => by omega) ?_
          exact ⟨by rw [if_pos (by omega)], rfl⟩
/-- what cell answers -/
def sCell (T : Tab) (r c : Int) : Int := if (0 ≤ r ∧ r < tR T) ∧ (0 ≤ c ∧ c < tC T) then (tX T (6 * r.toNat + c.toNat) : Int) else -1
theorem c_X_cell {d mc ms : Nat} {M : pm_M} (lay : Lay M) {T : Tab} (hT : TabOK T) (hM : TbAt M 24 T) {r c : Int} (hr : pm_inI r) (hc : pm_inI c) :
    pm_E (d + 1) 124 [(2, ((1 : Nat) : Int)), (0, r), (0, c)] M mc ms (fun ρ M' => ρ = some (0, sCell T r c) ∧ M' = M) := by
  have h0 := hT.1
  have h9 := hT.2.1
  show Wp (d + 1) 124 0 [(2, ((1 : Nat) : Int)), (0, r), (0, c)] [] M mc ms _
  by_cases hin : (0 ≤ r ∧ r < tR T) ∧ (0 ≤ c ∧ c < tC T)
  · obtain ⟨r', rfl⟩ := Int.eq_ofNat_of_zero_le hin.1.1
    obtain ⟨c', rfl⟩ := Int.eq_ofNat_of_zero_le hin.2.1
    refine g_aload_n lk_124_0 rfl ?_
    refine g_getfield lk_124_1 rfl (lay.on (by decide) rfl) (v := ((24 : Nat) : Int)) (lay.rf rfl) ?_
    refine g_iload_n lk_124_4 rfl ?_
    refine g_iload_n lk_124_5 rfl ?_
    refine g_virtual (p := 24) (Qc := _) lk_124_6 rfl (Nat.le_of_ble_eq_true rfl) rfl rfl (lay.on (by decide) rfl) (Nat.le_of_ble_eq_true rfl) (Nat.le_of_ble_eq_true rfl) (Nat.zero_le _) (Nat.zero_le _) (c_Table_has lay (Or.inr rfl) hT hM hr hc) ?_
    rintro _ N1 ⟨rfl, hN1⟩
    rw [hN1]
    show Wp _ 124 9 [(2, ((1 : Nat) : Int)), (0, (r' : Int)), (0, (c' : Int))] [(0, (if (0 ≤ (r' : Int) ∧ (r' : Int) < tR T) ∧ (0 ≤ (c' : Int) ∧ (c' : Int) < tC T) then (1 : Int) else 0))] M _ _ _
    refine g_if (t := 24) lk_124_9 rfl (by first | (unfold pm_inI; omega) | exact pm_and_in _ _ | exact pm_shr_in _ _ | exact pm_or_in _ _ | exact pm_xor_in _ _ | exact pm_shl_in _ _ | exact pm_cmp_in _ _ | exact pm_b8_in _ | (unfold pm_inI; split <;> omega)) (fun h2 => ?_) (fun h2 => ?_)
    · replace h2 : (if (0 ≤ (r' : Int) ∧ (r' : Int) < tR T) ∧ (0 ≤ (c' : Int) ∧ (c' : Int) < tC T) then (1 : Int) else 0) = 0 := h2
      refine g_iconst lk_124_24 ?_
      refine g_ireturn lk_124_25 (fun h => absurd h (by decide)) ?_
      exfalso; rw [if_pos hin] at h2; omega
    · replace h2 : ¬ ((if (0 ≤ (r' : Int) ∧ (r' : Int) < tR T) ∧ (0 ≤ (c' : Int) ∧ (c' : Int) < tC T) then (1 : Int) else 0) = 0) := h2
      refine g_aload_n lk_124_12 rfl ?_
      refine g_getfield lk_124_13 rfl (lay.on (by decide) rfl) (v := ((24 : Nat) : Int)) (lay.rf rfl) ?_
      refine g_iload_n lk_124_16 rfl ?_
      refine g_iload_n lk_124_17 rfl ?_
      refine g_virtual (p := 24) (Qc := _) lk_124_18 rfl (Nat.le_of_ble_eq_true rfl) rfl rfl (lay.on (by decide) rfl) (Nat.le_of_ble_eq_true rfl) (Nat.le_of_ble_eq_true rfl) (Nat.zero_le _) (Nat.zero_le _) (c_Table_at lay (Or.inr rfl) hM (by omega) (by omega)) ?_
      rintro _ N3 ⟨rfl, hN3⟩
      rw [hN3]
      show Wp _ 124 21 [(2, ((1 : Nat) : Int)), (0, (r' : Int)), (0, (c' : Int))] [(0, (tX T (6 * (r' : Int).toNat + (c' : Int).toNat) : Int))] M _ _ _
      refine g_goto (t := 25) lk_124_21 rfl ?_
      refine g_ireturn lk_124_25 (fun h => absurd h (by decide)) ?_
      refine ⟨?_, rfl⟩
      unfold sCell
      rw [if_pos hin]
  · skip
    refine g_aload_n lk_124_0 rfl ?_
    refine g_getfield lk_124_1 rfl (lay.on (by decide) rfl) (v := ((24 : Nat) : Int)) (lay.rf rfl) ?_
    refine g_iload_n lk_124_4 rfl ?_
    refine g_iload_n lk_124_5 rfl ?_
    refine g_virtual (p := 24) (Qc := _) lk_124_6 rfl (Nat.le_of_ble_eq_true rfl) rfl rfl (lay.on (by decide) rfl) (Nat.le_of_ble_eq_true rfl) (Nat.le_of_ble_eq_true rfl) (Nat.zero_le _) (Nat.zero_le _) (c_Table_has lay (Or.inr rfl) hT hM hr hc) ?_
    rintro _ N1 ⟨rfl, hN1⟩
    rw [hN1]
    show Wp _ 124 9 [(2, ((1 : Nat) : Int)), (0, r), (0, c)] [(0, (if (0 ≤ r ∧ r < tR T) ∧ (0 ≤ c ∧ c < tC T) then (1 : Int) else 0))] M _ _ _
    refine g_if (t := 24) lk_124_9 rfl (by first | (unfold pm_inI; omega) | exact pm_and_in _ _ | exact pm_shr_in _ _ | exact pm_or_in _ _ | exact pm_xor_in _ _ | exact pm_shl_in _ _ | exact pm_cmp_in _ _ | exact pm_b8_in _ | (unfold pm_inI; split <;> omega)) (fun h2 => ?_) (fun h2 => ?_)
    · replace h2 : (if (0 ≤ r ∧ r < tR T) ∧ (0 ≤ c ∧ c < tC T) then (1 : Int) else 0) = 0 := h2
      refine g_iconst lk_124_24 ?_
      refine g_ireturn lk_124_25 (fun h => absurd h (by decide)) ?_
      refine ⟨?_, rfl⟩
      unfold sCell
      rw [if_neg hin]
    · replace h2 : ¬ ((if (0 ≤ r ∧ r < tR T) ∧ (0 ≤ c ∧ c < tC T) then (1 : Int) else 0) = 0) := h2
      refine g_aload_n lk_124_12 rfl ?_
      refine g_getfield lk_124_13 rfl (lay.on (by decide) rfl) (v := ((24 : Nat) : Int)) (lay.rf rfl) ?_
      refine g_iload_n lk_124_16 rfl ?_
      refine g_iload_n lk_124_17 rfl ?_
      exfalso; rw [if_neg hin] at h2; omega
theorem c_Mo_isCell {d mc ms : Nat} {M : pm_M} (lay : Lay M) {T : Tab} (hT : TabOK T) (hM : MoAt M T) {r c : Int} (hr : pm_inI r) (hc : pm_inI c) :
    pm_E (d + 1) 172 [(2, ((116 : Nat) : Int)), (0, r), (0, c)] M mc ms (fun ρ M' => ρ = some (0, if (0 ≤ r ∧ r < tR T) ∧ (0 ≤ c ∧ c < tC T) then 1 else 0) ∧ M' = M) := by
  have h0 := hT.1
  have h9 := hT.2.1
  have hr' := hr
  have hc' := hc
  unfold pm_inI at hr' hc'
  show Wp (d + 1) 172 0 [(2, ((116 : Nat) : Int)), (0, r), (0, c)] [] M mc ms _
  refine g_iload_n lk_172_0 rfl ?_
  refine g_iconst lk_172_1 ?_
  refine g_aload_n lk_172_2 rfl ?_
  refine m_getfield (u := []) (M := M) lk_172_3 rfl (lay.on (by decide) rfl) (v := (tR T : Int)) hM.1 ?_
  refine g_iconst lk_172_6 ?_
  refine g_isub lk_172_7 ?_
  refine g_static (Qc := _) lk_172_8 (by decide) rfl (Nat.le_of_ble_eq_true rfl) rfl rfl (Nat.le_of_ble_eq_true rfl) (Nat.le_of_ble_eq_true rfl) (Nat.zero_le _) (Nat.zero_le _) (c_Mo_in (by unfold pm_inI; omega) (by unfold pm_inI; omega) (by unfold pm_inI; omega)) ?_
  rintro _ N1 ⟨rfl, hN1⟩
  rw [hN1]
  show Wp _ 172 11 [(2, ((116 : Nat) : Int)), (0, r), (0, c)] [(0, (if 0 ≤ r ∧ r ≤ ((tR T : Int) - 1) then (1 : Int) else 0))] M _ _ _
  refine g_if (t := 32) lk_172_11 rfl (by first | (unfold pm_inI; omega) | exact pm_and_in _ _ | exact pm_shr_in _ _ | exact pm_or_in _ _ | exact pm_xor_in _ _ | exact pm_shl_in _ _ | exact pm_cmp_in _ _ | exact pm_b8_in _ | (unfold pm_inI; split <;> omega)) (fun h2 => ?_) (fun h2 => ?_)
  · replace h2 : (if 0 ≤ r ∧ r ≤ ((tR T : Int) - 1) then (1 : Int) else 0) = 0 := h2
    refine g_iconst lk_172_32 ?_
    refine g_ireturn lk_172_33 (fun _ => by omega) ?_
    refine ⟨?_, rfl⟩
    rw [if_neg]
    split at h2 <;> omega
  · replace h2 : ¬ ((if 0 ≤ r ∧ r ≤ ((tR T : Int) - 1) then (1 : Int) else 0) = 0) := h2
    refine g_iload_n lk_172_14 rfl ?_
    refine g_iconst lk_172_15 ?_
    refine g_aload_n lk_172_16 rfl ?_
    refine m_getfield (u := []) (M := M) lk_172_17 rfl (lay.on (by decide) rfl) (v := (tC T : Int)) hM.2.1 ?_
    refine g_iconst lk_172_20 ?_
    refine g_isub lk_172_21 ?_
    refine g_static (Qc := _) lk_172_22 (by decide) rfl (Nat.le_of_ble_eq_true rfl) rfl rfl (Nat.le_of_ble_eq_true rfl) (Nat.le_of_ble_eq_true rfl) (Nat.zero_le _) (Nat.zero_le _) (c_Mo_in (by unfold pm_inI; omega) (by unfold pm_inI; omega) (by unfold pm_inI; omega)) ?_
    rintro _ N3 ⟨rfl, hN3⟩
    rw [hN3]
    show Wp _ 172 25 [(2, ((116 : Nat) : Int)), (0, r), (0, c)] [(0, (if 0 ≤ c ∧ c ≤ ((tC T : Int) - 1) then (1 : Int) else 0))] M _ _ _
    refine g_if (t := 32) lk_172_25 rfl (by first | (unfold pm_inI; omega) | exact pm_and_in _ _ | exact pm_shr_in _ _ | exact pm_or_in _ _ | exact pm_xor_in _ _ | exact pm_shl_in _ _ | exact pm_cmp_in _ _ | exact pm_b8_in _ | (unfold pm_inI; split <;> omega)) (fun h4 => ?_) (fun h4 => ?_)
    · replace h4 : (if 0 ≤ c ∧ c ≤ ((tC T : Int) - 1) then (1 : Int) else 0) = 0 := h4
      refine g_iconst lk_172_32 ?_
      refine g_ireturn lk_172_33 (fun _ => by omega) ?_
      refine ⟨?_, rfl⟩
      rw [if_neg]
      split at h4 <;> omega
    · replace h4 : ¬ ((if 0 ≤ c ∧ c ≤ ((tC T : Int) - 1) then (1 : Int) else 0) = 0) := h4
      refine g_iconst lk_172_28 ?_
      refine g_goto (t := 33) lk_172_29 rfl ?_
      refine g_ireturn lk_172_33 (fun _ => by omega) ?_
      refine ⟨?_, rfl⟩
      rw [if_pos]
      split at h4 <;> split at h2 <;> omega
theorem c_Mo_cell {d mc ms : Nat} {M : pm_M} (lay : Lay M) {T : Tab} (hT : TabOK T) (hM : MoAt M T) {r c : Int} (hr : pm_inI r) (hc : pm_inI c) :
    pm_E (d + 2) 204 [(2, ((116 : Nat) : Int)), (0, r), (0, c)] M mc ms (fun ρ M' => ρ = some (0, sCell T r c) ∧ Lay M' ∧ M' = Mu [(116, pm_upd (pm_ct M 116) 0 0)] M) := by
  have h0 := hT.1
  have h9 := hT.2.1
  have hM' : MoAt (Mu [(116, pm_upd (pm_ct M 116) 0 0)] M) T := hM
  show Wp (d + 2) 204 0 [(2, ((116 : Nat) : Int)), (0, r), (0, c)] [] M mc ms _
  by_cases hin : (0 ≤ r ∧ r < tR T) ∧ (0 ≤ c ∧ c < tC T)
  · obtain ⟨r', rfl⟩ := Int.eq_ofNat_of_zero_le hin.1.1
    obtain ⟨c', rfl⟩ := Int.eq_ofNat_of_zero_le hin.2.1
    refine g_aload_n lk_204_0 rfl ?_
    refine g_iconst lk_204_1 ?_
    have lay1 : Lay (Mu [(116, pm_upd (pm_ct M 116) 0 0)] M) := lay.muF (l := []) (a := 116) (k := 0) (z := 0) rfl rfl
    refine m_putfield (u := []) (u' := [(116, pm_upd (pm_ct M 116) 0 0)]) (M := M) lk_204_2 rfl (lay.on (by decide) rfl) (fun h => absurd h (by decide)) rfl ?_
    refine g_aload_n lk_204_5 rfl ?_
    refine g_iload_n lk_204_6 rfl ?_
    refine g_iload_n lk_204_7 rfl ?_
    refine g_virtual (p := 116) (Qc := _) lk_204_8 rfl (Nat.le_of_ble_eq_true rfl) rfl rfl (lay1.on (by decide) rfl) (Nat.le_of_ble_eq_true rfl) (Nat.le_of_ble_eq_true rfl) (Nat.zero_le _) (Nat.zero_le _) (c_Mo_isCell lay1 hT hM' hr hc) ?_
    rintro _ N2 ⟨rfl, hN2⟩
    rw [hN2]
    show Wp _ 204 11 [(2, ((116 : Nat) : Int)), (0, (r' : Int)), (0, (c' : Int))] [(0, (if (0 ≤ (r' : Int) ∧ (r' : Int) < tR T) ∧ (0 ≤ (c' : Int) ∧ (c' : Int) < tC T) then (1 : Int) else 0))] (Mu [(116, pm_upd (pm_ct M 116) 0 0)] M) _ _ _
    refine g_if (t := 23) lk_204_11 rfl (by first | (unfold pm_inI; omega) | exact pm_and_in _ _ | exact pm_shr_in _ _ | exact pm_or_in _ _ | exact pm_xor_in _ _ | exact pm_shl_in _ _ | exact pm_cmp_in _ _ | exact pm_b8_in _ | (unfold pm_inI; split <;> omega)) (fun h3 => ?_) (fun h3 => ?_)
    · replace h3 : (if (0 ≤ (r' : Int) ∧ (r' : Int) < tR T) ∧ (0 ≤ (c' : Int) ∧ (c' : Int) < tC T) then (1 : Int) else 0) = 0 := h3
      refine g_iconst lk_204_23 ?_
      refine g_ireturn lk_204_24 (fun h => absurd h (by decide)) ?_
      exfalso; rw [if_pos hin] at h3; omega
    · replace h3 : ¬ ((if (0 ≤ (r' : Int) ∧ (r' : Int) < tR T) ∧ (0 ≤ (c' : Int) ∧ (c' : Int) < tC T) then (1 : Int) else 0) = 0) := h3
      refine g_aload_n lk_204_14 rfl ?_
      refine g_iload_n lk_204_15 rfl ?_
      refine g_iload_n lk_204_16 rfl ?_
      refine g_virtual (p := 116) (Qc := _) lk_204_17 rfl (Nat.le_of_ble_eq_true rfl) rfl rfl (lay1.on (by decide) rfl) (Nat.le_of_ble_eq_true rfl) (Nat.le_of_ble_eq_true rfl) (Nat.zero_le _) (Nat.zero_le _) (c_Mo_cellAt lay1 hM' (by omega) (by omega)) ?_
      rintro _ N4 ⟨rfl, hN4⟩
      rw [hN4]
      show Wp _ 204 20 [(2, ((116 : Nat) : Int)), (0, (r' : Int)), (0, (c' : Int))] [(0, (tX T (6 * (r' : Int).toNat + (c' : Int).toNat) : Int))] (Mu [(116, pm_upd (pm_ct M 116) 0 0)] M) _ _ _
      refine g_goto (t := 24) lk_204_20 rfl ?_
      refine g_ireturn lk_204_24 (fun h => absurd h (by decide)) ?_
      refine ⟨?_, lay1, rfl⟩
      unfold sCell
      rw [if_pos hin]
  · skip
    refine g_aload_n lk_204_0 rfl ?_
    refine g_iconst lk_204_1 ?_
    have lay1 : Lay (Mu [(116, pm_upd (pm_ct M 116) 0 0)] M) := lay.muF (l := []) (a := 116) (k := 0) (z := 0) rfl rfl
    refine m_putfield (u := []) (u' := [(116, pm_upd (pm_ct M 116) 0 0)]) (M := M) lk_204_2 rfl (lay.on (by decide) rfl) (fun h => absurd h (by decide)) rfl ?_
    refine g_aload_n lk_204_5 rfl ?_
    refine g_iload_n lk_204_6 rfl ?_
    refine g_iload_n lk_204_7 rfl ?_
    refine g_virtual (p := 116) (Qc := _) lk_204_8 rfl (Nat.le_of_ble_eq_true rfl) rfl rfl (lay1.on (by decide) rfl) (Nat.le_of_ble_eq_true rfl) (Nat.le_of_ble_eq_true rfl) (Nat.zero_le _) (Nat.zero_le _) (c_Mo_isCell lay1 hT hM' hr hc) ?_
    rintro _ N2 ⟨rfl, hN2⟩
    rw [hN2]
    show Wp _ 204 11 [(2, ((116 : Nat) : Int)), (0, r), (0, c)] [(0, (if (0 ≤ r ∧ r < tR T) ∧ (0 ≤ c ∧ c < tC T) then (1 : Int) else 0))] (Mu [(116, pm_upd (pm_ct M 116) 0 0)] M) _ _ _
    refine g_if (t := 23) lk_204_11 rfl (by first | (unfold pm_inI; omega) | exact pm_and_in _ _ | exact pm_shr_in _ _ | exact pm_or_in _ _ | exact pm_xor_in _ _ | exact pm_shl_in _ _ | exact pm_cmp_in _ _ | exact pm_b8_in _ | (unfold pm_inI; split <;> omega)) (fun h3 => ?_) (fun h3 => ?_)
    · replace h3 : (if (0 ≤ r ∧ r < tR T) ∧ (0 ≤ c ∧ c < tC T) then (1 : Int) else 0) = 0 := h3
      refine g_iconst lk_204_23 ?_
      refine g_ireturn lk_204_24 (fun h => absurd h (by decide)) ?_
      refine ⟨?_, lay1, rfl⟩
      unfold sCell
      rw [if_neg hin]
    · replace h3 : ¬ ((if (0 ≤ r ∧ r < tR T) ∧ (0 ≤ c ∧ c < tC T) then (1 : Int) else 0) = 0) := h3
      refine g_aload_n lk_204_14 rfl ?_
      refine g_iload_n lk_204_15 rfl ?_
      refine g_iload_n lk_204_16 rfl ?_
      exfalso; rw [if_neg hin] at h3; omega
