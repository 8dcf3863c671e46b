/-! ===== the class: best, byTurns, wrong ===== -/
theorem c_X_isHow {d mc ms : Nat} {M : pm_M} {v : Int} (hv : pm_inI v) :
    pm_E d 160 [(0, v)] M mc ms (fun ρ M' => ρ = some (0, if 0 ≤ v ∧ v ≤ 2 then 1 else 0) ∧ M' = M) := by
  show Wp d 160 0 [(0, v)] [] M mc ms _
  refine g_iload_n lk_160_0 rfl ?_
  refine g_if (t := 13) lk_160_1 rfl (by first | assumption | (unfold pm_inI; omega)) (fun h1 => ?_) (fun h1 => ?_)
  · replace h1 : v < 0 := h1
    refine g_iconst lk_160_13 ?_
    refine g_ireturn lk_160_14 (fun _ => by omega) ?_
    exact ⟨by rw [if_neg (by omega)], rfl⟩
  · replace h1 : ¬ (v < 0) := h1
    refine g_iload_n lk_160_4 rfl ?_
    refine g_iconst lk_160_5 ?_
    refine g_icmp (t := 13) lk_160_6 rfl (by first | assumption | (unfold pm_inI; omega)) (by first | assumption | (unfold pm_inI; omega)) (fun h2 => ?_) (fun h2 => ?_)
    · replace h2 : 3 ≤ v := h2
      refine g_iconst lk_160_13 ?_
      refine g_ireturn lk_160_14 (fun _ => by omega) ?_
      exact ⟨by rw [if_neg (by omega)], rfl⟩
    · replace h2 : ¬ (3 ≤ v) := h2
      refine g_iconst lk_160_9 ?_
      refine g_goto (t := 14) lk_160_10 rfl ?_
      refine g_ireturn lk_160_14 (fun _ => by omega) ?_
      exact ⟨by rw [if_pos (by omega)], rfl⟩
/-- where arrays made later lie: seen, worth of 0, 1, 2, goesA, goesB, counts -/
def Dy (M : pm_M) (l : List Nat) : Prop := l.Nodup ∧ ∀ a, a ∈ l → own a ∧ a < M.1
set_option maxHeartbeats 4000000 in
theorem c_X_best0 {d mc ms : Nat} {M : pm_M} (lay0 : Lay M) {T : Tab} (hT : TabOK T) (hM0 : TbAt M 24 T) {s fa w f : Nat} (hA0 : CA M T s fa) (hB0 : CB M T 0 98 w f) (hff : f = 1 → fa = 1) (hsw : s ≠ w) (b1 : 2 ≤ mc) (b2 : 8192 ≤ ms) :
    pm_E (d + 5) 136 [(2, ((1 : Nat) : Int)), (0, 0)] M mc ms (fun ρ M' => ρ = some (0, sBest T 0) ∧ Lay M' ∧ TbAt M' 24 T ∧ ∃ s' w', CA M' T s' 1 ∧ CB M' T 0 98 w' 1 ∧ (s' = s ∨ M.1 ≤ s') ∧ (w' = w ∨ M.1 ≤ w') ∧ s' ≠ w' ∧ Gr [44, s, 98, w] M M' ∧ pm_ct M' 98 6 = pm_ct M 98 6) := by
  have ht : (24 : Nat) = 4 ∨ (24 : Nat) = 24 := Or.inr rfl
  have hM := hM0
  have wh := whole_in hT
  have ih := fun (M : pm_M) => c_X_isHow (d := d + 4) (mc := 0) (ms := 0) (M := M) (v := 0) (by unfold pm_inI; omega)
  rw [if_pos (by omega)] at ih
  show Wp (d + 5) 136 0 [(2, ((1 : Nat) : Int)), (0, 0)] [] M mc ms _
  refine g_iload_n lk_136_0 rfl ?_
  refine g_static (Qc := _) lk_136_1 (by decide) rfl (Nat.le_of_ble_eq_true rfl) rfl rfl (Nat.le_of_ble_eq_true rfl) (Nat.le_of_ble_eq_true rfl) (Nat.zero_le _) (Nat.zero_le _) (ih _) ?_
  rintro _ N1 ⟨rfl, hN1⟩
  rw [hN1]
  show Wp _ 136 4 [(2, ((1 : Nat) : Int)), (0, 0)] [(0, 1)] M _ _ _
  refine g_if (t := 33) lk_136_4 rfl (by first | (unfold pm_inI; omega) | exact pm_and_in _ _ | exact pm_shr_in _ _ | exact pm_or_in _ _ | exact pm_xor_in _ _ | exact pm_shl_in _ _ | exact pm_cmp_in _ _ | exact pm_b8_in _ | (unfold pm_inI; split <;> omega)) (fun h => absurd h (show ¬ ((1 : Int) = (0 : Int)) by omega)) (fun _ => ?_)
  refine g_aload_n lk_136_7 rfl ?_
  refine g_getfield lk_136_8 rfl (lay0.on (by decide) rfl) (v := ((46 : Nat) : Int)) (lay0.rf rfl) ?_
  refine g_iload_n lk_136_11 rfl ?_
  refine g_aaload lk_136_12 (by decide) (lay0.ay (by decide) rfl) (by omega) (v := ((98 : Nat) : Int)) (lay0.rf rfl) ?_
  refine g_aload_n lk_136_13 rfl ?_
  refine g_getfield lk_136_14 rfl (lay0.on (by decide) rfl) (v := ((24 : Nat) : Int)) (lay0.rf rfl) ?_
  refine g_virtual (p := 24) (Qc := _) lk_136_17 rfl (Nat.le_of_ble_eq_true rfl) rfl rfl (lay0.on (by decide) rfl) (Nat.le_of_ble_eq_true rfl) (Nat.le_of_ble_eq_true rfl) (Nat.zero_le _) (Nat.zero_le _) (c_Table_allRows lay0 ht hT hM) ?_
  rintro _ N2 ⟨rfl, hN2⟩
  rw [hN2]
  show Wp _ 136 20 [(2, ((1 : Nat) : Int)), (0, 0)] [(0, ((2 ^ tR T - 1 : Nat) : Int)), (2, ((98 : Nat) : Int))] M _ _ _
  refine g_aload_n lk_136_20 rfl ?_
  refine g_getfield lk_136_21 rfl (lay0.on (by decide) rfl) (v := ((24 : Nat) : Int)) (lay0.rf rfl) ?_
  refine g_virtual (p := 24) (Qc := _) lk_136_24 rfl (Nat.le_of_ble_eq_true rfl) rfl rfl (lay0.on (by decide) rfl) (Nat.le_of_ble_eq_true rfl) (Nat.le_of_ble_eq_true rfl) (Nat.zero_le _) (Nat.zero_le _) (c_Table_allColumns lay0 ht hT hM) ?_
  rintro _ N3 ⟨rfl, hN3⟩
  rw [hN3]
  show Wp _ 136 27 [(2, ((1 : Nat) : Int)), (0, 0)] [(0, ((2 ^ tC T - 1 : Nat) : Int)), (0, ((2 ^ tR T - 1 : Nat) : Int)), (2, ((98 : Nat) : Int))] M _ _ _
  refine g_virtual (p := 98) (Qc := _) lk_136_27 rfl (Nat.le_of_ble_eq_true rfl) rfl rfl (lay0.on (by decide) rfl) (Nat.le_of_ble_eq_true rfl) (Nat.le_of_ble_eq_true rfl) (by omega) (by omega) (c_Best_worthOf0 (d := d) (mc := 2) (ms := 8192) lay0 hT hM0 hA0 hB0 hff hsw (by omega) (by omega) wh.1 wh.2.1 wh.2.2.1 wh.2.2.2) ?_
  rintro _ N ⟨rfl, rest⟩
  refine g_goto (t := 34) lk_136_30 rfl ?_
  refine g_ireturn lk_136_34 (fun h => absurd h (by decide)) ⟨?_, rest⟩
  unfold sBest
  rw [if_neg (by omega)]
  rfl
set_option maxHeartbeats 4000000 in
theorem c_X_best1 {d mc ms : Nat} {M : pm_M} (lay0 : Lay M) {T : Tab} (hT : TabOK T) (hM0 : TbAt M 24 T) {s fa w f : Nat} (hA0 : CA M T s fa) (hB0 : CB M T 1 104 w f) (hff : f = 1 → fa = 1) (hsw : s ≠ w) (b1 : 2 ≤ mc) (b2 : 8192 ≤ ms) :
    pm_E (d + 5) 136 [(2, ((1 : Nat) : Int)), (0, 1)] M mc ms (fun ρ M' => ρ = some (0, sBest T 1) ∧ Lay M' ∧ TbAt M' 24 T ∧ ∃ s' w', CA M' T s' 1 ∧ CB M' T 1 104 w' 1 ∧ (s' = s ∨ M.1 ≤ s') ∧ (w' = w ∨ M.1 ≤ w') ∧ s' ≠ w' ∧ Gr [44, s, 104, w] M M' ∧ pm_ct M' 104 6 = pm_ct M 104 6) := by
  have ht : (24 : Nat) = 4 ∨ (24 : Nat) = 24 := Or.inr rfl
  have hM := hM0
  have wh := whole_in hT
  have ih := fun (M : pm_M) => c_X_isHow (d := d + 4) (mc := 0) (ms := 0) (M := M) (v := 1) (by unfold pm_inI; omega)
  rw [if_pos (by omega)] at ih
  show Wp (d + 5) 136 0 [(2, ((1 : Nat) : Int)), (0, 1)] [] M mc ms _
  refine g_iload_n lk_136_0 rfl ?_
  refine g_static (Qc := _) lk_136_1 (by decide) rfl (Nat.le_of_ble_eq_true rfl) rfl rfl (Nat.le_of_ble_eq_true rfl) (Nat.le_of_ble_eq_true rfl) (Nat.zero_le _) (Nat.zero_le _) (ih _) ?_
  rintro _ N1 ⟨rfl, hN1⟩
  rw [hN1]
  show Wp _ 136 4 [(2, ((1 : Nat) : Int)), (0, 1)] [(0, 1)] M _ _ _
  refine g_if (t := 33) lk_136_4 rfl (by first | (unfold pm_inI; omega) | exact pm_and_in _ _ | exact pm_shr_in _ _ | exact pm_or_in _ _ | exact pm_xor_in _ _ | exact pm_shl_in _ _ | exact pm_cmp_in _ _ | exact pm_b8_in _ | (unfold pm_inI; split <;> omega)) (fun h => absurd h (show ¬ ((1 : Int) = (0 : Int)) by omega)) (fun _ => ?_)
  refine g_aload_n lk_136_7 rfl ?_
  refine g_getfield lk_136_8 rfl (lay0.on (by decide) rfl) (v := ((46 : Nat) : Int)) (lay0.rf rfl) ?_
  refine g_iload_n lk_136_11 rfl ?_
  refine g_aaload lk_136_12 (by decide) (lay0.ay (by decide) rfl) (by omega) (v := ((104 : Nat) : Int)) (lay0.rf rfl) ?_
  refine g_aload_n lk_136_13 rfl ?_
  refine g_getfield lk_136_14 rfl (lay0.on (by decide) rfl) (v := ((24 : Nat) : Int)) (lay0.rf rfl) ?_
  refine g_virtual (p := 24) (Qc := _) lk_136_17 rfl (Nat.le_of_ble_eq_true rfl) rfl rfl (lay0.on (by decide) rfl) (Nat.le_of_ble_eq_true rfl) (Nat.le_of_ble_eq_true rfl) (Nat.zero_le _) (Nat.zero_le _) (c_Table_allRows lay0 ht hT hM) ?_
  rintro _ N2 ⟨rfl, hN2⟩
  rw [hN2]
  show Wp _ 136 20 [(2, ((1 : Nat) : Int)), (0, 1)] [(0, ((2 ^ tR T - 1 : Nat) : Int)), (2, ((104 : Nat) : Int))] M _ _ _
  refine g_aload_n lk_136_20 rfl ?_
  refine g_getfield lk_136_21 rfl (lay0.on (by decide) rfl) (v := ((24 : Nat) : Int)) (lay0.rf rfl) ?_
  refine g_virtual (p := 24) (Qc := _) lk_136_24 rfl (Nat.le_of_ble_eq_true rfl) rfl rfl (lay0.on (by decide) rfl) (Nat.le_of_ble_eq_true rfl) (Nat.le_of_ble_eq_true rfl) (Nat.zero_le _) (Nat.zero_le _) (c_Table_allColumns lay0 ht hT hM) ?_
  rintro _ N3 ⟨rfl, hN3⟩
  rw [hN3]
  show Wp _ 136 27 [(2, ((1 : Nat) : Int)), (0, 1)] [(0, ((2 ^ tC T - 1 : Nat) : Int)), (0, ((2 ^ tR T - 1 : Nat) : Int)), (2, ((104 : Nat) : Int))] M _ _ _
  refine g_virtual (p := 104) (Qc := _) lk_136_27 rfl (Nat.le_of_ble_eq_true rfl) rfl rfl (lay0.on (by decide) rfl) (Nat.le_of_ble_eq_true rfl) (Nat.le_of_ble_eq_true rfl) (by omega) (by omega) (c_Best_worthOf1 (d := d) (mc := 2) (ms := 8192) lay0 hT hM0 hA0 hB0 hff hsw (by omega) (by omega) wh.1 wh.2.1 wh.2.2.1 wh.2.2.2) ?_
  rintro _ N ⟨rfl, rest⟩
  refine g_goto (t := 34) lk_136_30 rfl ?_
  refine g_ireturn lk_136_34 (fun h => absurd h (by decide)) ⟨?_, rest⟩
  unfold sBest
  rw [if_neg (by omega)]
  rfl
set_option maxHeartbeats 4000000 in
theorem c_X_best2 {d mc ms : Nat} {M : pm_M} (lay0 : Lay M) {T : Tab} (hT : TabOK T) (hM0 : TbAt M 24 T) {s fa w f : Nat} (hA0 : CA M T s fa) (hB0 : CB M T 2 110 w f) (hff : f = 1 → fa = 1) (hsw : s ≠ w) (b1 : 2 ≤ mc) (b2 : 8192 ≤ ms) :
    pm_E (d + 5) 136 [(2, ((1 : Nat) : Int)), (0, 2)] M mc ms (fun ρ M' => ρ = some (0, sBest T 2) ∧ Lay M' ∧ TbAt M' 24 T ∧ ∃ s' w', CA M' T s' 1 ∧ CB M' T 2 110 w' 1 ∧ (s' = s ∨ M.1 ≤ s') ∧ (w' = w ∨ M.1 ≤ w') ∧ s' ≠ w' ∧ Gr [44, s, 110, w] M M' ∧ pm_ct M' 110 6 = pm_ct M 110 6) := by
  have ht : (24 : Nat) = 4 ∨ (24 : Nat) = 24 := Or.inr rfl
  have hM := hM0
  have wh := whole_in hT
  have ih := fun (M : pm_M) => c_X_isHow (d := d + 4) (mc := 0) (ms := 0) (M := M) (v := 2) (by unfold pm_inI; omega)
  rw [if_pos (by omega)] at ih
  show Wp (d + 5) 136 0 [(2, ((1 : Nat) : Int)), (0, 2)] [] M mc ms _
  refine g_iload_n lk_136_0 rfl ?_
  refine g_static (Qc := _) lk_136_1 (by decide) rfl (Nat.le_of_ble_eq_true rfl) rfl rfl (Nat.le_of_ble_eq_true rfl) (Nat.le_of_ble_eq_true rfl) (Nat.zero_le _) (Nat.zero_le _) (ih _) ?_
  rintro _ N1 ⟨rfl, hN1⟩
  rw [hN1]
  show Wp _ 136 4 [(2, ((1 : Nat) : Int)), (0, 2)] [(0, 1)] M _ _ _
  refine g_if (t := 33) lk_136_4 rfl (by first | (unfold pm_inI; omega) | exact pm_and_in _ _ | exact pm_shr_in _ _ | exact pm_or_in _ _ | exact pm_xor_in _ _ | exact pm_shl_in _ _ | exact pm_cmp_in _ _ | exact pm_b8_in _ | (unfold pm_inI; split <;> omega)) (fun h => absurd h (show ¬ ((1 : Int) = (0 : Int)) by omega)) (fun _ => ?_)
  refine g_aload_n lk_136_7 rfl ?_
  refine g_getfield lk_136_8 rfl (lay0.on (by decide) rfl) (v := ((46 : Nat) : Int)) (lay0.rf rfl) ?_
  refine g_iload_n lk_136_11 rfl ?_
  refine g_aaload lk_136_12 (by decide) (lay0.ay (by decide) rfl) (by omega) (v := ((110 : Nat) : Int)) (lay0.rf rfl) ?_
  refine g_aload_n lk_136_13 rfl ?_
  refine g_getfield lk_136_14 rfl (lay0.on (by decide) rfl) (v := ((24 : Nat) : Int)) (lay0.rf rfl) ?_
  refine g_virtual (p := 24) (Qc := _) lk_136_17 rfl (Nat.le_of_ble_eq_true rfl) rfl rfl (lay0.on (by decide) rfl) (Nat.le_of_ble_eq_true rfl) (Nat.le_of_ble_eq_true rfl) (Nat.zero_le _) (Nat.zero_le _) (c_Table_allRows lay0 ht hT hM) ?_
  rintro _ N2 ⟨rfl, hN2⟩
  rw [hN2]
  show Wp _ 136 20 [(2, ((1 : Nat) : Int)), (0, 2)] [(0, ((2 ^ tR T - 1 : Nat) : Int)), (2, ((110 : Nat) : Int))] M _ _ _
  refine g_aload_n lk_136_20 rfl ?_
  refine g_getfield lk_136_21 rfl (lay0.on (by decide) rfl) (v := ((24 : Nat) : Int)) (lay0.rf rfl) ?_
  refine g_virtual (p := 24) (Qc := _) lk_136_24 rfl (Nat.le_of_ble_eq_true rfl) rfl rfl (lay0.on (by decide) rfl) (Nat.le_of_ble_eq_true rfl) (Nat.le_of_ble_eq_true rfl) (Nat.zero_le _) (Nat.zero_le _) (c_Table_allColumns lay0 ht hT hM) ?_
  rintro _ N3 ⟨rfl, hN3⟩
  rw [hN3]
  show Wp _ 136 27 [(2, ((1 : Nat) : Int)), (0, 2)] [(0, ((2 ^ tC T - 1 : Nat) : Int)), (0, ((2 ^ tR T - 1 : Nat) : Int)), (2, ((110 : Nat) : Int))] M _ _ _
  refine g_virtual (p := 110) (Qc := _) lk_136_27 rfl (Nat.le_of_ble_eq_true rfl) rfl rfl (lay0.on (by decide) rfl) (Nat.le_of_ble_eq_true rfl) (Nat.le_of_ble_eq_true rfl) (by omega) (by omega) (c_Best_worthOf2 (d := d) (mc := 2) (ms := 8192) lay0 hT hM0 hA0 hB0 hff hsw (by omega) (by omega) wh.1 wh.2.1 wh.2.2.1 wh.2.2.2) ?_
  rintro _ N ⟨rfl, rest⟩
  refine g_goto (t := 34) lk_136_30 rfl ?_
  refine g_ireturn lk_136_34 (fun h => absurd h (by decide)) ⟨?_, rest⟩
  unfold sBest
  rw [if_neg (by omega)]
  rfl
theorem c_X_bestN {d mc ms : Nat} {M : pm_M} (lay0 : Lay M) {T : Tab} {w : Int} (hw : pm_inI w) (hno : w < 0 ∨ 2 < w) :
    pm_E (d + 1) 136 [(2, ((1 : Nat) : Int)), (0, w)] M mc ms (fun ρ M' => ρ = some (0, sBest T w) ∧ M' = M) := by
  have ih := fun (M : pm_M) => c_X_isHow (d := d) (mc := 0) (ms := 0) (M := M) (v := w) hw
  rw [if_neg (by omega)] at ih
  show Wp (d + 1) 136 0 [(2, ((1 : Nat) : Int)), (0, w)] [] M mc ms _
  refine g_iload_n lk_136_0 rfl ?_
  refine g_static (Qc := _) lk_136_1 (by decide) rfl (Nat.le_of_ble_eq_true rfl) rfl rfl (Nat.le_of_ble_eq_true rfl) (Nat.le_of_ble_eq_true rfl) (Nat.zero_le _) (Nat.zero_le _) (ih _) ?_
  rintro _ N1 ⟨rfl, hN1⟩
  rw [hN1]
  show Wp _ 136 4 [(2, ((1 : Nat) : Int)), (0, w)] [(0, 0)] M _ _ _
  refine g_if (t := 33) lk_136_4 rfl (by first | (unfold pm_inI; omega) | exact pm_and_in _ _ | exact pm_shr_in _ _ | exact pm_or_in _ _ | exact pm_xor_in _ _ | exact pm_shl_in _ _ | exact pm_cmp_in _ _ | exact pm_b8_in _ | (unfold pm_inI; split <;> omega)) (fun _ => ?_) (fun h => absurd (show (0 : Int) = (0 : Int) by omega) h)
  refine g_iconst lk_136_33 ?_
  refine g_ireturn lk_136_34 (fun h => absurd h (by decide)) ?_
  refine ⟨?_, rfl⟩
  unfold sBest
  rw [if_pos hno]
set_option maxHeartbeats 4000000 in
theorem c_X_byTurns {d mc ms : Nat} {M : pm_M} (lay0 : Lay M) {T : Tab} (hT : TabOK T) (hM0 : TbAt M 24 T) {s fa ga gb r ch : Nat} (hA0 : CA M T s fa) (hC0 : CT M T ga gb r ch) (hff : 1 ≤ r → fa = 1) (nsa : s ≠ ga) (nsb : s ≠ gb) {w : Int} (hw : pm_inI w) (b1 : 3 ≤ mc) (b2 : 12288 ≤ ms) :
    pm_E (d + 5) 137 [(2, ((1 : Nat) : Int)), (0, w)] M mc ms (fun ρ M' => ρ = some (0, sTurns T w) ∧ Lay M' ∧ TbAt M' 24 T ∧ ∃ s' fa' ga' gb' r' ch', CA M' T s' fa' ∧ CT M' T ga' gb' r' ch' ∧ (fa' = 1 ∨ fa' = fa ∧ r' = r) ∧ (s' = s ∨ M.1 ≤ s') ∧ (ga' = ga ∨ M.1 ≤ ga') ∧ (gb' = gb ∨ M.1 ≤ gb') ∧ s' ≠ ga' ∧ s' ≠ gb' ∧ Gr [44, s, 47, 48, ga, gb] M M') := by
  show Wp (d + 5) 137 0 [(2, ((1 : Nat) : Int)), (0, w)] [] M mc ms _
  refine g_iload_n lk_137_0 rfl ?_
  refine g_if (t := 10) lk_137_1 rfl (by first | assumption | (unfold pm_inI; omega)) (fun h1 => ?_) (fun h1 => ?_)
  · replace h1 : w < 0 := h1
    refine g_iconst lk_137_10 ?_
    refine g_goto (t := 22) lk_137_11 rfl ?_
    refine g_ireturn lk_137_22 (fun h => absurd h (by decide)) ?_
    refine ⟨?_, lay0, hM0, s, fa, ga, gb, r, ch, hA0, hC0, Or.inr ⟨rfl, rfl⟩, Or.inl rfl, Or.inl rfl, Or.inl rfl, nsa, nsb, Gr.refl _ _⟩
    unfold sTurns
    rw [if_pos (by omega)]
  · replace h1 : ¬ (w < 0) := h1
    refine g_iload_n lk_137_4 rfl ?_
    refine g_bipush lk_137_5 ?_
    refine g_icmp (t := 14) lk_137_7 rfl (by first | assumption | (unfold pm_inI; omega)) (by first | assumption | (unfold pm_inI; omega)) (fun h2 => ?_) (fun h2 => ?_)
    · replace h2 : w < 6 := h2
      refine g_aload_n lk_137_14 rfl ?_
      refine g_getfield lk_137_15 rfl (lay0.on (by decide) rfl) (v := ((47 : Nat) : Int)) (lay0.rf rfl) ?_
      refine g_iload_n lk_137_18 rfl ?_
      obtain ⟨k, rfl⟩ := Int.eq_ofNat_of_zero_le (show 0 ≤ w by omega)
      refine g_virtual (p := 47) (Qc := _) lk_137_19 rfl (Nat.le_of_ble_eq_true rfl) rfl rfl (lay0.on (by decide) rfl) (Nat.le_of_ble_eq_true rfl) (Nat.le_of_ble_eq_true rfl) (by omega) (by omega) (c_Turns_leastWith (d := d) (mc := 3) (ms := 12288) lay0 hT hM0 hA0 hC0 hff nsa nsb (k := k) (by omega) (by omega) (by omega)) ?_
      rintro _ N ⟨rfl, l2, m2, s', ga', gb', r', ch', x1, x2, x3, x4, x5, x6, x7, x8⟩
      refine g_ireturn lk_137_22 (fun h => absurd h (by decide)) ⟨?_, l2, m2, s', 1, ga', gb', r', ch', x1, x2, Or.inl rfl, x3, x4, x5, x6, x7, x8⟩
      unfold sTurns
      rw [if_neg (show ¬ ((k : Int) < 0 ∨ 5 < (k : Int)) by omega), Int.toNat_natCast]
    · replace h2 : ¬ (w < 6) := h2
      refine g_iconst lk_137_10 ?_
      refine g_goto (t := 22) lk_137_11 rfl ?_
      refine g_ireturn lk_137_22 (fun h => absurd h (by decide)) ?_
      refine ⟨?_, lay0, hM0, s, fa, ga, gb, r, ch, hA0, hC0, Or.inr ⟨rfl, rfl⟩, Or.inl rfl, Or.inl rfl, Or.inl rfl, nsa, nsb, Gr.refl _ _⟩
      unfold sTurns
      rw [if_pos (by omega)]
set_option maxHeartbeats 4000000 in
theorem c_X_wrong {d mc ms : Nat} {M : pm_M} (lay0 : Lay M) {T : Tab} (hT : TabOK T) (hM0 : TbAt M 24 T) {s fa cn r : Nat} (hA0 : CA M T s fa) (hC0 : CS M T cn r) (hff : 1 ≤ r → fa = 1) (nsc : s ≠ cn) {w : Int} (hw : pm_inI w) (b1 : 2 ≤ mc) (b2 : 8192 ≤ ms) :
    pm_E (d + 6) 139 [(2, ((1 : Nat) : Int)), (0, w)] M mc ms (fun ρ M' => ρ = some (0, sWrong T w) ∧ Lay M' ∧ TbAt M' 24 T ∧ ∃ s' fa' cn' r', CA M' T s' fa' ∧ CS M' T cn' r' ∧ (fa' = 1 ∨ fa' = fa ∧ r' = r) ∧ (s' = s ∨ M.1 ≤ s') ∧ (cn' = cn ∨ M.1 ≤ cn') ∧ s' ≠ cn' ∧ Gr [44, s, 51, 52, cn] M M') := by
  show Wp (d + 6) 139 0 [(2, ((1 : Nat) : Int)), (0, w)] [] M mc ms _
  refine g_iload_n lk_139_0 rfl ?_
  refine g_if (t := 10) lk_139_1 rfl (by first | assumption | (unfold pm_inI; omega)) (fun h1 => ?_) (fun h1 => ?_)
  · replace h1 : w < 0 := h1
    refine g_iconst lk_139_10 ?_
    refine g_goto (t := 22) lk_139_11 rfl ?_
    refine g_ireturn lk_139_22 (fun h => absurd h (by decide)) ?_
    refine ⟨?_, lay0, hM0, s, fa, cn, r, hA0, hC0, Or.inr ⟨rfl, rfl⟩, Or.inl rfl, Or.inl rfl, nsc, Gr.refl _ _⟩
    unfold sWrong
    rw [if_pos (by omega)]
  · replace h1 : ¬ (w < 0) := h1
    refine g_iload_n lk_139_4 rfl ?_
    refine g_bipush lk_139_5 ?_
    refine g_icmp (t := 14) lk_139_7 rfl (by first | assumption | (unfold pm_inI; omega)) (by first | assumption | (unfold pm_inI; omega)) (fun h2 => ?_) (fun h2 => ?_)
    · replace h2 : w < 21 := h2
      refine g_aload_n lk_139_14 rfl ?_
      refine g_getfield lk_139_15 rfl (lay0.on (by decide) rfl) (v := ((51 : Nat) : Int)) (lay0.rf rfl) ?_
      refine g_iload_n lk_139_18 rfl ?_
      obtain ⟨k, rfl⟩ := Int.eq_ofNat_of_zero_le (show 0 ≤ w by omega)
      refine g_virtual (p := 51) (Qc := _) lk_139_19 rfl (Nat.le_of_ble_eq_true rfl) rfl rfl (lay0.on (by decide) rfl) (Nat.le_of_ble_eq_true rfl) (Nat.le_of_ble_eq_true rfl) (by omega) (by omega) (c_Spoilt_fewestWith (d := d) (mc := 2) (ms := 8192) lay0 hT hM0 hA0 hC0 hff nsc (k := k) (by omega) (by omega) (by omega)) ?_
      rintro _ N ⟨rfl, l2, m2, s', cn', r', x1, x2, x3, x4, x5, x6⟩
      refine g_ireturn lk_139_22 (fun h => absurd h (by decide)) ⟨?_, l2, m2, s', 1, cn', r', x1, x2, Or.inl rfl, x3, x4, x5, x6⟩
      unfold sWrong
      rw [if_neg (by omega), Int.toNat_natCast]
    · replace h2 : ¬ (w < 21) := h2
      refine g_iconst lk_139_10 ?_
      refine g_goto (t := 22) lk_139_11 rfl ?_
      refine g_ireturn lk_139_22 (fun h => absurd h (by decide)) ?_
      refine ⟨?_, lay0, hM0, s, fa, cn, r, hA0, hC0, Or.inr ⟨rfl, rfl⟩, Or.inl rfl, Or.inl rfl, nsc, Gr.refl _ _⟩
      unfold sWrong
      rw [if_pos (by omega)]
