/-! ===== answer, leaf: the model ===== -/
theorem c_Mo_isTree {d mc ms : Nat} {M : pm_M} (lay : Lay M) {Ts : List (List Nd)} (hTs : TsM M Ts) {t : Int} (ht : pm_inI t) :
    pm_E (d + 1) 173 [(2, ((116 : Nat) : Int)), (0, t)] M mc ms (fun ρ M' => ρ = some (0, if 0 ≤ t ∧ t < (Ts.length : Int) then 1 else 0) ∧ M' = M) := by
  obtain ⟨l4, ct, _⟩ := hTs
  obtain ⟨l, hl⟩ : ∃ l, l = Ts.length := ⟨_, rfl⟩
  rw [← hl] at ct l4 ⊢
  have ci := fun (M : pm_M) => c_Mo_in (d := d) (mc := 0) (ms := 0) (M := M) (v := t) (l := 0) (h := (l : Int) - 1) ht (by unfold pm_inI; omega) (by unfold pm_inI; omega)
  have e : (if 0 ≤ t ∧ t ≤ (l : Int) - 1 then (1 : Int) else 0) = if 0 ≤ t ∧ t < (l : Int) then 1 else 0 := by
    by_cases q : 0 ≤ t ∧ t < (l : Int)
    · rw [if_pos q, if_pos (by omega)]
    · rw [if_neg q, if_neg (by omega)]
  rw [e] at ci
  obtain ⟨z, hz⟩ : ∃ z : Int, z = if 0 ≤ t ∧ t < (l : Int) then 1 else 0 := ⟨_, rfl⟩
  have z1 : z = 0 ∨ z = 1 := by rw [hz]; split <;> omega
  rw [← hz] at ci ⊢
  show Wp (d + 1) 173 0 [(2, ((116 : Nat) : Int)), (0, t)] [] M mc ms _
  refine g_iload_n lk_173_0 rfl ?_
  refine g_iconst lk_173_1 ?_
  refine g_aload_n lk_173_2 rfl ?_
  refine m_getfield (u := []) (M := M) lk_173_3 rfl (lay.on (by decide) rfl) (v := (l : Int)) ct ?_
  refine g_iconst lk_173_6 ?_
  refine g_isub lk_173_7 ?_
  refine g_static (Qc := _) lk_173_8 (by decide) rfl (Nat.le_of_ble_eq_true rfl) rfl rfl (Nat.le_of_ble_eq_true rfl) (Nat.le_of_ble_eq_true rfl) (Nat.zero_le _) (Nat.zero_le _) (ci _) ?_
  rintro _ N1 ⟨rfl, hN1⟩
  rw [hN1]
  show Wp _ 173 11 [(2, ((116 : Nat) : Int)), (0, t)] [(0, z)] M _ _ _
  refine g_ireturn lk_173_11 (fun _ => by omega) ?_
  exact ⟨rfl, rfl⟩
theorem c_Mo_isAsked {d mc ms : Nat} {M : pm_M} (lay : Lay M) {T : Tab} (hT : TabOK T) (hM : MoAt M T) {Ts : List (List Nd)} (hTs : TsM M Ts) {t r c : Int} (ht : pm_inI t) (hr : pm_inI r) (hc : pm_inI c) :
    pm_E (d + 2) 248 [(2, ((116 : Nat) : Int)), (0, t), (0, r), (0, c)] M mc ms (fun ρ M' => ρ = some (0, if asked T Ts t r c then 1 else 0) ∧ M' = M) := by
  have it := c_Mo_isTree (d := d) (mc := 0) (ms := 0) lay hTs ht
  have hs := c_Mo_isCell (d := d) (mc := 0) (ms := 0) lay hT hM hr hc
  show Wp (d + 2) 248 0 [(2, ((116 : Nat) : Int)), (0, t), (0, r), (0, c)] [] M mc ms _
  by_cases e1 : 0 ≤ t ∧ t < (Ts.length : Int)
  · rw [if_pos e1] at it
    by_cases e2 : (0 ≤ r ∧ r < tR T) ∧ (0 ≤ c ∧ c < tC T)
    · rw [if_pos e2] at hs
      refine g_aload_n lk_248_0 rfl ?_
      refine g_iload_n lk_248_1 rfl ?_
      refine g_virtual (p := 116) (Qc := _) lk_248_2 rfl (Nat.le_of_ble_eq_true rfl) rfl rfl (lay.on (by decide) rfl) (Nat.le_of_ble_eq_true rfl) (Nat.le_of_ble_eq_true rfl) (Nat.zero_le _) (Nat.zero_le _) (it) ?_
      rintro _ N1 ⟨rfl, hN1⟩
      rw [hN1]
      show Wp _ 248 5 [(2, ((116 : Nat) : Int)), (0, t), (0, r), (0, c)] [(0, 1)] M _ _ _
      refine g_if (t := 21) lk_248_5 rfl (by first | (unfold pm_inI; omega) | exact pm_and_in _ _ | exact pm_shr_in _ _ | exact pm_or_in _ _ | exact pm_xor_in _ _ | exact pm_shl_in _ _ | exact pm_cmp_in _ _ | exact pm_b8_in _ | (unfold pm_inI; split <;> omega)) (fun h => absurd h (show ¬ ((1 : Int) = (0 : Int)) by omega)) (fun _ => ?_)
      refine g_aload_n lk_248_8 rfl ?_
      refine g_iload_n lk_248_9 rfl ?_
      refine g_iload_n lk_248_10 rfl ?_
      refine g_virtual (p := 116) (Qc := _) lk_248_11 rfl (Nat.le_of_ble_eq_true rfl) rfl rfl (lay.on (by decide) rfl) (Nat.le_of_ble_eq_true rfl) (Nat.le_of_ble_eq_true rfl) (Nat.zero_le _) (Nat.zero_le _) (hs) ?_
      rintro _ N2 ⟨rfl, hN2⟩
      rw [hN2]
      show Wp _ 248 14 [(2, ((116 : Nat) : Int)), (0, t), (0, r), (0, c)] [(0, 1)] M _ _ _
      refine g_if (t := 21) lk_248_14 rfl (by first | (unfold pm_inI; omega) | exact pm_and_in _ _ | exact pm_shr_in _ _ | exact pm_or_in _ _ | exact pm_xor_in _ _ | exact pm_shl_in _ _ | exact pm_cmp_in _ _ | exact pm_b8_in _ | (unfold pm_inI; split <;> omega)) (fun h => absurd h (show ¬ ((1 : Int) = (0 : Int)) by omega)) (fun _ => ?_)
      refine g_iconst lk_248_17 ?_
      refine g_goto (t := 22) lk_248_18 rfl ?_
      refine g_ireturn lk_248_22 (fun _ => by omega) ?_
      exact ⟨by rw [if_pos ⟨e1, e2⟩], rfl⟩
    · rw [if_neg e2] at hs
      refine g_aload_n lk_248_0 rfl ?_
      refine g_iload_n lk_248_1 rfl ?_
      refine g_virtual (p := 116) (Qc := _) lk_248_2 rfl (Nat.le_of_ble_eq_true rfl) rfl rfl (lay.on (by decide) rfl) (Nat.le_of_ble_eq_true rfl) (Nat.le_of_ble_eq_true rfl) (Nat.zero_le _) (Nat.zero_le _) (it) ?_
      rintro _ N1 ⟨rfl, hN1⟩
      rw [hN1]
      show Wp _ 248 5 [(2, ((116 : Nat) : Int)), (0, t), (0, r), (0, c)] [(0, 1)] M _ _ _
      refine g_if (t := 21) lk_248_5 rfl (by first | (unfold pm_inI; omega) | exact pm_and_in _ _ | exact pm_shr_in _ _ | exact pm_or_in _ _ | exact pm_xor_in _ _ | exact pm_shl_in _ _ | exact pm_cmp_in _ _ | exact pm_b8_in _ | (unfold pm_inI; split <;> omega)) (fun h => absurd h (show ¬ ((1 : Int) = (0 : Int)) by omega)) (fun _ => ?_)
      refine g_aload_n lk_248_8 rfl ?_
      refine g_iload_n lk_248_9 rfl ?_
      refine g_iload_n lk_248_10 rfl ?_
      refine g_virtual (p := 116) (Qc := _) lk_248_11 rfl (Nat.le_of_ble_eq_true rfl) rfl rfl (lay.on (by decide) rfl) (Nat.le_of_ble_eq_true rfl) (Nat.le_of_ble_eq_true rfl) (Nat.zero_le _) (Nat.zero_le _) (hs) ?_
      rintro _ N2 ⟨rfl, hN2⟩
      rw [hN2]
      show Wp _ 248 14 [(2, ((116 : Nat) : Int)), (0, t), (0, r), (0, c)] [(0, 0)] M _ _ _
      refine g_if (t := 21) lk_248_14 rfl (by first | (unfold pm_inI; omega) | exact pm_and_in _ _ | exact pm_shr_in _ _ | exact pm_or_in _ _ | exact pm_xor_in _ _ | exact pm_shl_in _ _ | exact pm_cmp_in _ _ | exact pm_b8_in _ | (unfold pm_inI; split <;> omega)) (fun _ => ?_) (fun h => absurd (show (0 : Int) = (0 : Int) by omega) h)
      refine g_iconst lk_248_21 ?_
      refine g_ireturn lk_248_22 (fun _ => by omega) ?_
      exact ⟨by rw [if_neg (fun q => e2 q.2)], rfl⟩
  · rw [if_neg e1] at it
    refine g_aload_n lk_248_0 rfl ?_
    refine g_iload_n lk_248_1 rfl ?_
    refine g_virtual (p := 116) (Qc := _) lk_248_2 rfl (Nat.le_of_ble_eq_true rfl) rfl rfl (lay.on (by decide) rfl) (Nat.le_of_ble_eq_true rfl) (Nat.le_of_ble_eq_true rfl) (Nat.zero_le _) (Nat.zero_le _) (it) ?_
    rintro _ N1 ⟨rfl, hN1⟩
    rw [hN1]
    show Wp _ 248 5 [(2, ((116 : Nat) : Int)), (0, t), (0, r), (0, c)] [(0, 0)] M _ _ _
    refine g_if (t := 21) lk_248_5 rfl (by first | (unfold pm_inI; omega) | exact pm_and_in _ _ | exact pm_shr_in _ _ | exact pm_or_in _ _ | exact pm_xor_in _ _ | exact pm_shl_in _ _ | exact pm_cmp_in _ _ | exact pm_b8_in _ | (unfold pm_inI; split <;> omega)) (fun _ => ?_) (fun h => absurd (show (0 : Int) = (0 : Int) by omega) h)
    refine g_iconst lk_248_21 ?_
    refine g_ireturn lk_248_22 (fun _ => by omega) ?_
    exact ⟨by rw [if_neg (fun q => e1 q.1)], rfl⟩
set_option maxHeartbeats 4000000 in
theorem c_Mo_leaf {d mc ms : Nat} {M : pm_M} (lay0 : Lay M) {T : Tab} (hT : TabOK T) (hM0 : MoAt M T) {Ts : List (List Nd)} (hTs0 : TsM M Ts) {t r c : Int} (ht : pm_inI t) (hr : pm_inI r) (hc : pm_inI c) :
    pm_E (d + 3) 251 [(2, ((116 : Nat) : Int)), (0, t), (0, r), (0, c)] M mc ms (fun ρ M' => ρ = some (0, sLeaf T Ts t r c) ∧ Lay M' ∧ MF [151, 152] [0, 59, 60, 61] M M') := by
  have th := MF.th (S := [151, 152]) (K := [0, 59, 60, 61]) (by decide) M
  have mo := hM0.mf th (by decide) (by decide) (by decide) (by decide)
  have ts := hTs0.mf th (by decide) (by decide) (by decide) (by decide) (by decide)
  have ia := fun l => c_Mo_isAsked (d := d) (mc := 0) (ms := 0) (M := Mu [(116, pm_upd (pm_ct M 116) 0 0)] M) l hT mo ts ht hr hc
  show Wp (d + 3) 251 0 [(2, ((116 : Nat) : Int)), (0, t), (0, r), (0, c)] [] M mc ms _
  by_cases hi : asked T Ts t r c
  · rw [if_pos hi] at ia
    obtain ⟨i1, i2, i3⟩ := id hi
    have l4 := hTs0.1
    have hR := hT.1
    have hC := hT.2.1
    obtain ⟨t, rfl⟩ := Int.eq_ofNat_of_zero_le i1.1
    obtain ⟨r, rfl⟩ := Int.eq_ofNat_of_zero_le i2.1
    obtain ⟨c, rfl⟩ := Int.eq_ofNat_of_zero_le i3.1
    obtain ⟨tm, dp, hD⟩ := ts.2.2 t (by omega)
    have es : sLeaf T Ts (t : Int) (r : Int) (c : Int) = (wy (Ts.getD t []) r c 9 0 : Int) := by
      unfold sLeaf lfOf
      rw [if_pos hi]
      rfl
    rw [es]
    refine g_aload_n lk_251_0 rfl ?_
    refine g_iconst lk_251_1 ?_
    have lay1 : Lay (Mu [(116, pm_upd (pm_ct M 116) 0 0)] M) := lay0.muF (l := []) (a := 116) (k := 0) (z := 0) rfl rfl
    refine m_putfield (u := []) (u' := [(116, pm_upd (pm_ct M 116) 0 0)]) (M := M) lk_251_2 rfl (lay0.on (by decide) rfl) (fun h => absurd h (by decide)) rfl ?_
    refine g_aload_n lk_251_5 rfl ?_
    refine g_iload_n lk_251_6 rfl ?_
    refine g_iload_n lk_251_7 rfl ?_
    refine g_iload_n lk_251_8 rfl ?_
    refine g_virtual (p := 116) (Qc := _) lk_251_9 rfl (Nat.le_of_ble_eq_true rfl) rfl rfl (lay1.on (by decide) rfl) (Nat.le_of_ble_eq_true rfl) (Nat.le_of_ble_eq_true rfl) (Nat.zero_le _) (Nat.zero_le _) (ia lay1) ?_
    rintro _ N2 ⟨rfl, hN2⟩
    rw [hN2]
    show Wp _ 251 12 [(2, ((116 : Nat) : Int)), (0, (t : Int)), (0, (r : Int)), (0, (c : Int))] [(0, 1)] (Mu [(116, pm_upd (pm_ct M 116) 0 0)] M) _ _ _
    refine g_if (t := 25) lk_251_12 rfl (by first | (unfold pm_inI; omega) | exact pm_and_in _ _ | exact pm_shr_in _ _ | exact pm_or_in _ _ | exact pm_xor_in _ _ | exact pm_shl_in _ _ | exact pm_cmp_in _ _ | exact pm_b8_in _ | (unfold pm_inI; split <;> omega)) (fun h => absurd h (show ¬ ((1 : Int) = (0 : Int)) by omega)) (fun _ => ?_)
    refine g_aload_n lk_251_15 rfl ?_
    refine g_iload_n lk_251_16 rfl ?_
    refine g_iload_n lk_251_17 rfl ?_
    refine g_iload_n lk_251_18 rfl ?_
    refine g_virtual (p := 116) (Qc := _) lk_251_19 rfl (Nat.le_of_ble_eq_true rfl) rfl rfl (lay1.on (by decide) rfl) (Nat.le_of_ble_eq_true rfl) (Nat.le_of_ble_eq_true rfl) (Nat.zero_le _) (Nat.zero_le _) (c_Mo_goes (d := d + 1) lay1 hT mo hD (by omega) tm (by omega) (by omega)) ?_
    rintro _ K1 ⟨rfl, lay1, mf1, -⟩
    show Wp _ 251 22 [(2, ((116 : Nat) : Int)), (0, (t : Int)), (0, (r : Int)), (0, (c : Int))] [(0, (wy (Ts.getD t []) r c 9 0 : Int))] K1 _ _ _
    refine g_goto (t := 26) lk_251_22 rfl ?_
    refine g_ireturn lk_251_26 (fun h => absurd h (by decide)) ?_
    exact ⟨rfl, lay1, th.trans (mf1.mono (fun a q => q) (fun a q => by simp at q ⊢; omega))⟩
  · rw [if_neg hi] at ia
    have es : sLeaf T Ts t r c = -1 := by unfold sLeaf; rw [if_neg hi]
    rw [es]
    refine g_aload_n lk_251_0 rfl ?_
    refine g_iconst lk_251_1 ?_
    have lay1 : Lay (Mu [(116, pm_upd (pm_ct M 116) 0 0)] M) := lay0.muF (l := []) (a := 116) (k := 0) (z := 0) rfl rfl
    refine m_putfield (u := []) (u' := [(116, pm_upd (pm_ct M 116) 0 0)]) (M := M) lk_251_2 rfl (lay0.on (by decide) rfl) (fun h => absurd h (by decide)) rfl ?_
    refine g_aload_n lk_251_5 rfl ?_
    refine g_iload_n lk_251_6 rfl ?_
    refine g_iload_n lk_251_7 rfl ?_
    refine g_iload_n lk_251_8 rfl ?_
    refine g_virtual (p := 116) (Qc := _) lk_251_9 rfl (Nat.le_of_ble_eq_true rfl) rfl rfl (lay1.on (by decide) rfl) (Nat.le_of_ble_eq_true rfl) (Nat.le_of_ble_eq_true rfl) (Nat.zero_le _) (Nat.zero_le _) (ia lay1) ?_
    rintro _ N2 ⟨rfl, hN2⟩
    rw [hN2]
    show Wp _ 251 12 [(2, ((116 : Nat) : Int)), (0, t), (0, r), (0, c)] [(0, 0)] (Mu [(116, pm_upd (pm_ct M 116) 0 0)] M) _ _ _
    refine g_if (t := 25) lk_251_12 rfl (by first | (unfold pm_inI; omega) | exact pm_and_in _ _ | exact pm_shr_in _ _ | exact pm_or_in _ _ | exact pm_xor_in _ _ | exact pm_shl_in _ _ | exact pm_cmp_in _ _ | exact pm_b8_in _ | (unfold pm_inI; split <;> omega)) (fun _ => ?_) (fun h => absurd (show (0 : Int) = (0 : Int) by omega) h)
    refine g_iconst lk_251_25 ?_
    refine g_ireturn lk_251_26 (fun h => absurd h (by decide)) ?_
    exact ⟨rfl, lay1, th⟩
set_option maxHeartbeats 4000000 in
theorem c_Mo_answer {d mc ms : Nat} {M : pm_M} (lay0 : Lay M) {T : Tab} (hT : TabOK T) (hM0 : MoAt M T) {Ts : List (List Nd)} (hTs0 : TsM M Ts) {t r c : Int} (ht : pm_inI t) (hr : pm_inI r) (hc : pm_inI c) :
    pm_E (d + 3) 249 [(2, ((116 : Nat) : Int)), (0, t), (0, r), (0, c)] M mc ms (fun ρ M' => ρ = some (0, sAns T Ts t r c) ∧ Lay M' ∧ MF [151, 152] [0, 59, 60, 61] M M') := by
  have th := MF.th (S := [151, 152]) (K := [0, 59, 60, 61]) (by decide) M
  have mo := hM0.mf th (by decide) (by decide) (by decide) (by decide)
  have ts := hTs0.mf th (by decide) (by decide) (by decide) (by decide) (by decide)
  have ia := fun l => c_Mo_isAsked (d := d) (mc := 0) (ms := 0) (M := Mu [(116, pm_upd (pm_ct M 116) 0 0)] M) l hT mo ts ht hr hc
  show Wp (d + 3) 249 0 [(2, ((116 : Nat) : Int)), (0, t), (0, r), (0, c)] [] M mc ms _
  by_cases hi : asked T Ts t r c
  · rw [if_pos hi] at ia
    obtain ⟨i1, i2, i3⟩ := id hi
    have l4 := hTs0.1
    have hR := hT.1
    have hC := hT.2.1
    obtain ⟨t, rfl⟩ := Int.eq_ofNat_of_zero_le i1.1
    obtain ⟨r, rfl⟩ := Int.eq_ofNat_of_zero_le i2.1
    obtain ⟨c, rfl⟩ := Int.eq_ofNat_of_zero_le i3.1
    obtain ⟨tm, dp, hD⟩ := ts.2.2 t (by omega)
    have es : sAns T Ts (t : Int) (r : Int) (c : Int) = ((ndA (Ts.getD t []) (wy (Ts.getD t []) r c 9 0)).2.1 : Int) := by
      unfold sAns lfOf
      rw [if_pos hi]
      rfl
    rw [es]
    have wlf := (wy_leaf hD (r := r) (c := c) (n := 9) (k := 0) (by have := hD.1; omega) (by omega)).2
    have l31 := hD.2.1
    have gs := fun l => c_Mo_goes (d := d + 1) (mc := 0) (ms := 0) l hT mo hD (show t < 4 by omega) tm (r := r) (c := c) (by omega) (by omega)
    obtain ⟨w, hw⟩ : ∃ w, w = wy (Ts.getD t []) r c 9 0 := ⟨_, rfl⟩
    rw [← hw] at gs wlf ⊢
    have rd := (tm.2 w wlf).2.1
    obtain ⟨j, hj⟩ : ∃ j, j = 31 * t + w := ⟨_, rfl⟩
    rw [← hj] at rd
    have ej : (31 : Int) * (t : Int) + (w : Int) = (j : Int) := by omega
    refine g_aload_n lk_249_0 rfl ?_
    refine g_iconst lk_249_1 ?_
    have lay1 : Lay (Mu [(116, pm_upd (pm_ct M 116) 0 0)] M) := lay0.muF (l := []) (a := 116) (k := 0) (z := 0) rfl rfl
    refine m_putfield (u := []) (u' := [(116, pm_upd (pm_ct M 116) 0 0)]) (M := M) lk_249_2 rfl (lay0.on (by decide) rfl) (fun h => absurd h (by decide)) rfl ?_
    refine g_aload_n lk_249_5 rfl ?_
    refine g_iload_n lk_249_6 rfl ?_
    refine g_iload_n lk_249_7 rfl ?_
    refine g_iload_n lk_249_8 rfl ?_
    refine g_virtual (p := 116) (Qc := _) lk_249_9 rfl (Nat.le_of_ble_eq_true rfl) rfl rfl (lay1.on (by decide) rfl) (Nat.le_of_ble_eq_true rfl) (Nat.le_of_ble_eq_true rfl) (Nat.zero_le _) (Nat.zero_le _) (ia lay1) ?_
    rintro _ N2 ⟨rfl, hN2⟩
    rw [hN2]
    show Wp _ 249 12 [(2, ((116 : Nat) : Int)), (0, (t : Int)), (0, (r : Int)), (0, (c : Int))] [(0, 1)] (Mu [(116, pm_upd (pm_ct M 116) 0 0)] M) _ _ _
    refine g_if (t := 35) lk_249_12 rfl (by first | (unfold pm_inI; omega) | exact pm_and_in _ _ | exact pm_shr_in _ _ | exact pm_or_in _ _ | exact pm_xor_in _ _ | exact pm_shl_in _ _ | exact pm_cmp_in _ _ | exact pm_b8_in _ | (unfold pm_inI; split <;> omega)) (fun h => absurd h (show ¬ ((1 : Int) = (0 : Int)) by omega)) (fun _ => ?_)
    refine g_aload_n lk_249_15 rfl ?_
    refine g_getfield lk_249_16 rfl (lay1.on (by decide) rfl) (v := ((124 : Nat) : Int)) (lay1.rf rfl) ?_
    refine g_bipush lk_249_19 ?_
    refine g_iload_n lk_249_21 rfl ?_
    refine g_imul lk_249_22 ?_
    refine g_aload_n lk_249_23 rfl ?_
    refine g_iload_n lk_249_24 rfl ?_
    refine g_iload_n lk_249_25 rfl ?_
    refine g_iload_n lk_249_26 rfl ?_
    refine g_virtual (p := 116) (Qc := _) lk_249_27 rfl (Nat.le_of_ble_eq_true rfl) rfl rfl (lay1.on (by decide) rfl) (Nat.le_of_ble_eq_true rfl) (Nat.le_of_ble_eq_true rfl) (Nat.zero_le _) (Nat.zero_le _) (gs lay1) ?_
    rintro _ K1 ⟨rfl, lay1, mf1, -⟩
    have rd1 : pm_ct K1 124 j = ((ndA (Ts.getD t []) w).2.1 : Int) := (by rw [mf1.ct (by decide) (by decide)]; exact rd)
    show Wp _ 249 30 [(2, ((116 : Nat) : Int)), (0, (t : Int)), (0, (r : Int)), (0, (c : Int))] [(0, (w : Int)), (0, (31 * (t : Int))), (2, ((124 : Nat) : Int))] K1 _ _ _
    refine g_iadd lk_249_30 ?_
    refine g_top (z := ((31 * (t : Int)) + (w : Int))) (z' := (j : Int)) (ej) ?_
    refine m_iaload (u := []) (M := K1) lk_249_31 (lay1.ay (by decide) rfl) (by omega) (j := j) (by omega) (v := ((ndA (Ts.getD t []) w).2.1 : Int)) rd1 ?_
    refine g_goto (t := 36) lk_249_32 rfl ?_
    refine g_ireturn lk_249_36 (fun h => absurd h (by decide)) ?_
    exact ⟨rfl, lay1, th.trans (mf1.mono (fun a q => q) (fun a q => by simp at q ⊢; omega))⟩
  · rw [if_neg hi] at ia
    have es : sAns T Ts t r c = -1 := by unfold sAns; rw [if_neg hi]
    rw [es]
    refine g_aload_n lk_249_0 rfl ?_
    refine g_iconst lk_249_1 ?_
    have lay1 : Lay (Mu [(116, pm_upd (pm_ct M 116) 0 0)] M) := lay0.muF (l := []) (a := 116) (k := 0) (z := 0) rfl rfl
    refine m_putfield (u := []) (u' := [(116, pm_upd (pm_ct M 116) 0 0)]) (M := M) lk_249_2 rfl (lay0.on (by decide) rfl) (fun h => absurd h (by decide)) rfl ?_
    refine g_aload_n lk_249_5 rfl ?_
    refine g_iload_n lk_249_6 rfl ?_
    refine g_iload_n lk_249_7 rfl ?_
    refine g_iload_n lk_249_8 rfl ?_
    refine g_virtual (p := 116) (Qc := _) lk_249_9 rfl (Nat.le_of_ble_eq_true rfl) rfl rfl (lay1.on (by decide) rfl) (Nat.le_of_ble_eq_true rfl) (Nat.le_of_ble_eq_true rfl) (Nat.zero_le _) (Nat.zero_le _) (ia lay1) ?_
    rintro _ N2 ⟨rfl, hN2⟩
    rw [hN2]
    show Wp _ 249 12 [(2, ((116 : Nat) : Int)), (0, t), (0, r), (0, c)] [(0, 0)] (Mu [(116, pm_upd (pm_ct M 116) 0 0)] M) _ _ _
    refine g_if (t := 35) lk_249_12 rfl (by first | (unfold pm_inI; omega) | exact pm_and_in _ _ | exact pm_shr_in _ _ | exact pm_or_in _ _ | exact pm_xor_in _ _ | exact pm_shl_in _ _ | exact pm_cmp_in _ _ | exact pm_b8_in _ | (unfold pm_inI; split <;> omega)) (fun _ => ?_) (fun h => absurd (show (0 : Int) = (0 : Int) by omega) h)
    refine g_iconst lk_249_35 ?_
    refine g_ireturn lk_249_36 (fun h => absurd h (by decide)) ?_
    exact ⟨rfl, lay1, th⟩
