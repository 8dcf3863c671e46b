/-! ===== answer, leaf: the class ===== -/
def TrAt (M : pm_M) (P : Nat) (L : List Nd) : Prop := pm_ct M (P + 1) 3 = (L.length : Int) ∧ NdL M (P + 2) (P + 3) (P + 4) L
/-- the trees of the text -/
def TsAt (M : pm_M) (Ts : List (List Nd)) : Prop := Ts.length ≤ 4 ∧ pm_ct M 1 11 = (Ts.length : Int) ∧ ∀ t, t < Ts.length → TrAt M (54 + 11 * t) (Ts.getD t []) ∧ TrOK (Ts.getD t [])
abbrev asked (T : Tab) (Ts : List (List Nd)) (t r c : Int) : Prop := (0 ≤ t ∧ t < (Ts.length : Int)) ∧ (0 ≤ r ∧ r < tR T) ∧ (0 ≤ c ∧ c < tC T)
def lfOf (Ts : List (List Nd)) (t r c : Int) : Nat := wy (Ts.getD t.toNat []) r.toNat c.toNat 9 0
def sAns (T : Tab) (Ts : List (List Nd)) (t r c : Int) : Int := if asked T Ts t r c then ((ndA (Ts.getD t.toNat []) (lfOf Ts t r c)).2.1 : Int) else -1
def sLeaf (T : Tab) (Ts : List (List Nd)) (t r c : Int) : Int := if asked T Ts t r c then (lfOf Ts t r c : Int) else -1
theorem c_X_isTree {d mc ms : Nat} {M : pm_M} (lay : Lay M) {Ts : List (List Nd)} (hTs : TsAt M Ts) {t : Int} (ht : pm_inI t) :
    pm_E d 158 [(2, ((1 : Nat) : Int)), (0, t)] M mc ms (fun ρ M' => ρ = some (0, if 0 ≤ t ∧ t < (Ts.length : Int) then 1 else 0) ∧ M' = M) := by
  obtain ⟨l4, ct, _⟩ := hTs
  obtain ⟨l, hl⟩ : ∃ l, l = Ts.length := ⟨_, rfl⟩
  rw [← hl] at ct l4 ⊢
  show Wp d 158 0 [(2, ((1 : Nat) : Int)), (0, t)] [] M mc ms _
  refine g_iload_n lk_158_0 rfl ?_
  refine g_if (t := 16) lk_158_1 rfl (by first | assumption | (unfold pm_inI; omega)) (fun h1 => ?_) (fun h1 => ?_)
  · replace h1 : t < 0 := h1
    refine g_iconst lk_158_16 ?_
    refine g_ireturn lk_158_17 (fun _ => by omega) ?_
    exact ⟨by rw [if_neg (by omega)], rfl⟩
  · replace h1 : ¬ (t < 0) := h1
    refine g_iload_n lk_158_4 rfl ?_
    refine g_aload_n lk_158_5 rfl ?_
    refine m_getfield (u := []) (M := M) lk_158_6 rfl (lay.on (by decide) rfl) (v := (l : Int)) ct ?_
    refine g_icmp (t := 16) lk_158_9 rfl (by first | assumption | (unfold pm_inI; omega)) (by first | assumption | (unfold pm_inI; omega)) (fun h2 => ?_) (fun h2 => ?_)
    · replace h2 : (l : Int) ≤ t := h2
      refine g_iconst lk_158_16 ?_
      refine g_ireturn lk_158_17 (fun _ => by omega) ?_
      exact ⟨by rw [if_neg (by omega)], rfl⟩
    · replace h2 : ¬ ((l : Int) ≤ t) := h2
      refine g_iconst lk_158_12 ?_
      refine g_goto (t := 17) lk_158_13 rfl ?_
      refine g_ireturn lk_158_17 (fun _ => by omega) ?_
      exact ⟨by rw [if_pos (by omega)], rfl⟩
theorem c_X_answerN {d mc ms : Nat} {M : pm_M} (lay : Lay M) {T : Tab} (hT : TabOK T) (hM : TbAt M 24 T) {Ts : List (List Nd)} (hTs : TsAt M Ts) {t r c : Int} (ht : pm_inI t) (hr : pm_inI r) (hc : pm_inI c) (hno : ¬ asked T Ts t r c) :
    pm_E (d + 1) 141 [(2, ((1 : Nat) : Int)), (0, t), (0, r), (0, c)] M mc ms (fun ρ M' => ρ = some (0, -1) ∧ M' = M) := by
  have it := c_X_isTree (d := d) (mc := 0) (ms := 0) lay hTs ht
  have hs := c_Table_has (d := d) (mc := 0) (ms := 0) lay (Or.inr rfl) hT hM hr hc
  show Wp (d + 1) 141 0 [(2, ((1 : Nat) : Int)), (0, t), (0, r), (0, c)] [] M mc ms _
  by_cases e1 : 0 ≤ t ∧ t < (Ts.length : Int)
  · rw [if_pos e1] at it
    rw [if_neg (fun q => hno ⟨e1, q⟩)] at hs
    refine g_aload_n lk_141_0 rfl ?_
    refine g_iload_n lk_141_1 rfl ?_
    refine g_virtual (p := 1) (Qc := _) lk_141_2 rfl (Nat.le_of_ble_eq_true rfl) rfl rfl (lay.on (by decide) rfl) (Nat.le_of_ble_eq_true rfl) (Nat.le_of_ble_eq_true rfl) (Nat.zero_le _) (Nat.zero_le _) (it) ?_
    rintro _ N1 ⟨rfl, hN1⟩
    rw [hN1]
    show Wp _ 141 5 [(2, ((1 : Nat) : Int)), (0, t), (0, r), (0, c)] [(0, 1)] M _ _ _
    refine g_if (t := 20) lk_141_5 rfl (by first | (unfold pm_inI; omega) | exact pm_and_in _ _ | exact pm_shr_in _ _ | exact pm_or_in _ _ | exact pm_xor_in _ _ | exact pm_shl_in _ _ | exact pm_cmp_in _ _ | exact pm_b8_in _ | (unfold pm_inI; split <;> omega)) (fun h => absurd h (show ¬ ((1 : Int) = (0 : Int)) by omega)) (fun _ => ?_)
    refine g_aload_n lk_141_8 rfl ?_
    refine g_getfield lk_141_9 rfl (lay.on (by decide) rfl) (v := ((24 : Nat) : Int)) (lay.rf rfl) ?_
    refine g_iload_n lk_141_12 rfl ?_
    refine g_iload_n lk_141_13 rfl ?_
    refine g_virtual (p := 24) (Qc := _) lk_141_14 rfl (Nat.le_of_ble_eq_true rfl) rfl rfl (lay.on (by decide) rfl) (Nat.le_of_ble_eq_true rfl) (Nat.le_of_ble_eq_true rfl) (Nat.zero_le _) (Nat.zero_le _) (hs) ?_
    rintro _ N2 ⟨rfl, hN2⟩
    rw [hN2]
    show Wp _ 141 17 [(2, ((1 : Nat) : Int)), (0, t), (0, r), (0, c)] [(0, 0)] M _ _ _
    refine g_if (t := 22) lk_141_17 rfl (by first | (unfold pm_inI; omega) | exact pm_and_in _ _ | exact pm_shr_in _ _ | exact pm_or_in _ _ | exact pm_xor_in _ _ | exact pm_shl_in _ _ | exact pm_cmp_in _ _ | exact pm_b8_in _ | (unfold pm_inI; split <;> omega)) (fun h => absurd h (show ¬ (¬ (0 : Int) = (0 : Int)) by omega)) (fun _ => ?_)
    refine g_iconst lk_141_20 ?_
    refine g_ireturn lk_141_21 (fun h => absurd h (by decide)) ?_
    exact ⟨rfl, rfl⟩
  · rw [if_neg e1] at it
    refine g_aload_n lk_141_0 rfl ?_
    refine g_iload_n lk_141_1 rfl ?_
    refine g_virtual (p := 1) (Qc := _) lk_141_2 rfl (Nat.le_of_ble_eq_true rfl) rfl rfl (lay.on (by decide) rfl) (Nat.le_of_ble_eq_true rfl) (Nat.le_of_ble_eq_true rfl) (Nat.zero_le _) (Nat.zero_le _) (it) ?_
    rintro _ N1 ⟨rfl, hN1⟩
    rw [hN1]
    show Wp _ 141 5 [(2, ((1 : Nat) : Int)), (0, t), (0, r), (0, c)] [(0, 0)] M _ _ _
    refine g_if (t := 20) lk_141_5 rfl (by first | (unfold pm_inI; omega) | exact pm_and_in _ _ | exact pm_shr_in _ _ | exact pm_or_in _ _ | exact pm_xor_in _ _ | exact pm_shl_in _ _ | exact pm_cmp_in _ _ | exact pm_b8_in _ | (unfold pm_inI; split <;> omega)) (fun _ => ?_) (fun h => absurd (show (0 : Int) = (0 : Int) by omega) h)
    refine g_iconst lk_141_20 ?_
    refine g_ireturn lk_141_21 (fun h => absurd h (by decide)) ?_
    exact ⟨rfl, rfl⟩
theorem c_X_leafN {d mc ms : Nat} {M : pm_M} (lay : Lay M) {T : Tab} (hT : TabOK T) (hM : TbAt M 24 T) {Ts : List (List Nd)} (hTs : TsAt M Ts) {t r c : Int} (ht : pm_inI t) (hr : pm_inI r) (hc : pm_inI c) (hno : ¬ asked T Ts t r c) :
    pm_E (d + 1) 143 [(2, ((1 : Nat) : Int)), (0, t), (0, r), (0, c)] M mc ms (fun ρ M' => ρ = some (0, -1) ∧ M' = M) := by
  have it := c_X_isTree (d := d) (mc := 0) (ms := 0) lay hTs ht
  have hs := c_Table_has (d := d) (mc := 0) (ms := 0) lay (Or.inr rfl) hT hM hr hc
  show Wp (d + 1) 143 0 [(2, ((1 : Nat) : Int)), (0, t), (0, r), (0, c)] [] M mc ms _
  by_cases e1 : 0 ≤ t ∧ t < (Ts.length : Int)
  · rw [if_pos e1] at it
    rw [if_neg (fun q => hno ⟨e1, q⟩)] at hs
    refine g_aload_n lk_143_0 rfl ?_
    refine g_iload_n lk_143_1 rfl ?_
    refine g_virtual (p := 1) (Qc := _) lk_143_2 rfl (Nat.le_of_ble_eq_true rfl) rfl rfl (lay.on (by decide) rfl) (Nat.le_of_ble_eq_true rfl) (Nat.le_of_ble_eq_true rfl) (Nat.zero_le _) (Nat.zero_le _) (it) ?_
    rintro _ N1 ⟨rfl, hN1⟩
    rw [hN1]
    show Wp _ 143 5 [(2, ((1 : Nat) : Int)), (0, t), (0, r), (0, c)] [(0, 1)] M _ _ _
    refine g_if (t := 34) lk_143_5 rfl (by first | (unfold pm_inI; omega) | exact pm_and_in _ _ | exact pm_shr_in _ _ | exact pm_or_in _ _ | exact pm_xor_in _ _ | exact pm_shl_in _ _ | exact pm_cmp_in _ _ | exact pm_b8_in _ | (unfold pm_inI; split <;> omega)) (fun h => absurd h (show ¬ ((1 : Int) = (0 : Int)) by omega)) (fun _ => ?_)
    refine g_aload_n lk_143_8 rfl ?_
    refine g_getfield lk_143_9 rfl (lay.on (by decide) rfl) (v := ((24 : Nat) : Int)) (lay.rf rfl) ?_
    refine g_iload_n lk_143_12 rfl ?_
    refine g_iload_n lk_143_13 rfl ?_
    refine g_virtual (p := 24) (Qc := _) lk_143_14 rfl (Nat.le_of_ble_eq_true rfl) rfl rfl (lay.on (by decide) rfl) (Nat.le_of_ble_eq_true rfl) (Nat.le_of_ble_eq_true rfl) (Nat.zero_le _) (Nat.zero_le _) (hs) ?_
    rintro _ N2 ⟨rfl, hN2⟩
    rw [hN2]
    show Wp _ 143 17 [(2, ((1 : Nat) : Int)), (0, t), (0, r), (0, c)] [(0, 0)] M _ _ _
    refine g_if (t := 34) lk_143_17 rfl (by first | (unfold pm_inI; omega) | exact pm_and_in _ _ | exact pm_shr_in _ _ | exact pm_or_in _ _ | exact pm_xor_in _ _ | exact pm_shl_in _ _ | exact pm_cmp_in _ _ | exact pm_b8_in _ | (unfold pm_inI; split <;> omega)) (fun _ => ?_) (fun h => absurd (show (0 : Int) = (0 : Int) by omega) h)
    refine g_iconst lk_143_34 ?_
    refine g_ireturn lk_143_35 (fun h => absurd h (by decide)) ?_
    exact ⟨rfl, rfl⟩
  · rw [if_neg e1] at it
    refine g_aload_n lk_143_0 rfl ?_
    refine g_iload_n lk_143_1 rfl ?_
    refine g_virtual (p := 1) (Qc := _) lk_143_2 rfl (Nat.le_of_ble_eq_true rfl) rfl rfl (lay.on (by decide) rfl) (Nat.le_of_ble_eq_true rfl) (Nat.le_of_ble_eq_true rfl) (Nat.zero_le _) (Nat.zero_le _) (it) ?_
    rintro _ N1 ⟨rfl, hN1⟩
    rw [hN1]
    show Wp _ 143 5 [(2, ((1 : Nat) : Int)), (0, t), (0, r), (0, c)] [(0, 0)] M _ _ _
    refine g_if (t := 34) lk_143_5 rfl (by first | (unfold pm_inI; omega) | exact pm_and_in _ _ | exact pm_shr_in _ _ | exact pm_or_in _ _ | exact pm_xor_in _ _ | exact pm_shl_in _ _ | exact pm_cmp_in _ _ | exact pm_b8_in _ | (unfold pm_inI; split <;> omega)) (fun _ => ?_) (fun h => absurd (show (0 : Int) = (0 : Int) by omega) h)
    refine g_iconst lk_143_34 ?_
    refine g_ireturn lk_143_35 (fun h => absurd h (by decide)) ?_
    exact ⟨rfl, rfl⟩
theorem c_X_answer0 {d mc ms : Nat} {M : pm_M} (lay : Lay M) {T : Tab} (hT : TabOK T) (hM : TbAt M 24 T) {Ts : List (List Nd)} (hTs : TsAt M Ts) {r c : Nat} (hi : asked T Ts 0 (r : Int) (c : Int)) :
    pm_E (d + 5) 141 [(2, ((1 : Nat) : Int)), (0, 0), (0, (r : Int)), (0, (c : Int))] M mc ms (fun ρ M' => ρ = some (0, sAns T Ts 0 (r : Int) (c : Int)) ∧ M' = M) := by
  obtain ⟨i1, i2, i3⟩ := id hi
  have hR := hT.1
  have hC := hT.2.1
  obtain ⟨⟨ct, nl⟩, dp, hD⟩ := hTs.2.2 0 (by omega)
  have it := c_X_isTree (d := d + 4) (mc := 0) (ms := 0) lay hTs (t := 0) (by unfold pm_inI; omega)
  rw [if_pos i1] at it
  have hs := c_Table_has (d := d + 4) (mc := 0) (ms := 0) lay (Or.inr rfl) hT hM (r := (r : Int)) (c := (c : Int)) (by unfold pm_inI; omega) (by unfold pm_inI; omega)
  rw [if_pos ⟨i2, i3⟩] at hs
  have an := c_Told_answerAt0 (d := d) (mc := 0) (ms := 0) lay hD ct nl (r := r) (c := c) (by omega) (by omega)
  have es : sAns T Ts 0 (r : Int) (c : Int) = ((ndA (Ts.getD 0 []) (wy (Ts.getD 0 []) r c 9 0)).2.1 : Int) := by
    unfold sAns lfOf
    rw [if_pos hi]
    rfl
  rw [es]
  obtain ⟨v, hv⟩ : ∃ v, v = (ndA (Ts.getD 0 []) (wy (Ts.getD 0 []) r c 9 0)).2.1 := ⟨_, rfl⟩
  rw [← hv] at an ⊢
  show Wp (d + 5) 141 0 [(2, ((1 : Nat) : Int)), (0, 0), (0, (r : Int)), (0, (c : Int))] [] M mc ms _
  refine g_aload_n lk_141_0 rfl ?_
  refine g_iload_n lk_141_1 rfl ?_
  refine g_virtual (p := 1) (Qc := _) lk_141_2 rfl (Nat.le_of_ble_eq_true rfl) rfl rfl (lay.on (by decide) rfl) (Nat.le_of_ble_eq_true rfl) (Nat.le_of_ble_eq_true rfl) (Nat.zero_le _) (Nat.zero_le _) (it) ?_
  rintro _ N1 ⟨rfl, hN1⟩
  rw [hN1]
  show Wp _ 141 5 [(2, ((1 : Nat) : Int)), (0, 0), (0, (r : Int)), (0, (c : Int))] [(0, 1)] M _ _ _
  refine g_if (t := 20) lk_141_5 rfl (by first | (unfold pm_inI; omega) | exact pm_and_in _ _ | exact pm_shr_in _ _ | exact pm_or_in _ _ | exact pm_xor_in _ _ | exact pm_shl_in _ _ | exact pm_cmp_in _ _ | exact pm_b8_in _ | (unfold pm_inI; split <;> omega)) (fun h => absurd h (show ¬ ((1 : Int) = (0 : Int)) by omega)) (fun _ => ?_)
  refine g_aload_n lk_141_8 rfl ?_
  refine g_getfield lk_141_9 rfl (lay.on (by decide) rfl) (v := ((24 : Nat) : Int)) (lay.rf rfl) ?_
  refine g_iload_n lk_141_12 rfl ?_
  refine g_iload_n lk_141_13 rfl ?_
  refine g_virtual (p := 24) (Qc := _) lk_141_14 rfl (Nat.le_of_ble_eq_true rfl) rfl rfl (lay.on (by decide) rfl) (Nat.le_of_ble_eq_true rfl) (Nat.le_of_ble_eq_true rfl) (Nat.zero_le _) (Nat.zero_le _) (hs) ?_
  rintro _ N2 ⟨rfl, hN2⟩
  rw [hN2]
  show Wp _ 141 17 [(2, ((1 : Nat) : Int)), (0, 0), (0, (r : Int)), (0, (c : Int))] [(0, 1)] M _ _ _
  refine g_if (t := 22) lk_141_17 rfl (by first | (unfold pm_inI; omega) | exact pm_and_in _ _ | exact pm_shr_in _ _ | exact pm_or_in _ _ | exact pm_xor_in _ _ | exact pm_shl_in _ _ | exact pm_cmp_in _ _ | exact pm_b8_in _ | (unfold pm_inI; split <;> omega)) (fun _ => ?_) (fun h => absurd (show ¬ (1 : Int) = (0 : Int) by omega) h)
  refine g_aload_n lk_141_22 rfl ?_
  refine g_getfield lk_141_23 rfl (lay.on (by decide) rfl) (v := ((26 : Nat) : Int)) (lay.rf rfl) ?_
  refine g_iload_n lk_141_26 rfl ?_
  refine g_aaload lk_141_27 (by decide) (lay.ay (by decide) rfl) (by omega) (v := ((54 : Nat) : Int)) (lay.rf rfl) ?_
  refine g_iload_n lk_141_28 rfl ?_
  refine g_iload_n lk_141_29 rfl ?_
  refine g_virtual (p := 54) (Qc := _) lk_141_30 rfl (Nat.le_of_ble_eq_true rfl) rfl rfl (lay.on (by decide) rfl) (Nat.le_of_ble_eq_true rfl) (Nat.le_of_ble_eq_true rfl) (Nat.zero_le _) (Nat.zero_le _) (an) ?_
  rintro _ N3 ⟨rfl, hN3⟩
  rw [hN3]
  show Wp _ 141 33 [(2, ((1 : Nat) : Int)), (0, 0), (0, (r : Int)), (0, (c : Int))] [(0, (v : Int))] M _ _ _
  refine g_ireturn lk_141_33 (fun h => absurd h (by decide)) ?_
  exact ⟨rfl, rfl⟩
theorem c_X_leaf0 {d mc ms : Nat} {M : pm_M} (lay : Lay M) {T : Tab} (hT : TabOK T) (hM : TbAt M 24 T) {Ts : List (List Nd)} (hTs : TsAt M Ts) {r c : Nat} (hi : asked T Ts 0 (r : Int) (c : Int)) :
    pm_E (d + 5) 143 [(2, ((1 : Nat) : Int)), (0, 0), (0, (r : Int)), (0, (c : Int))] M mc ms (fun ρ M' => ρ = some (0, sLeaf T Ts 0 (r : Int) (c : Int)) ∧ M' = M) := by
  obtain ⟨i1, i2, i3⟩ := id hi
  have hR := hT.1
  have hC := hT.2.1
  obtain ⟨⟨ct, nl⟩, dp, hD⟩ := hTs.2.2 0 (by omega)
  have it := c_X_isTree (d := d + 4) (mc := 0) (ms := 0) lay hTs (t := 0) (by unfold pm_inI; omega)
  rw [if_pos i1] at it
  have hs := c_Table_has (d := d + 4) (mc := 0) (ms := 0) lay (Or.inr rfl) hT hM (r := (r : Int)) (c := (c : Int)) (by unfold pm_inI; omega) (by unfold pm_inI; omega)
  rw [if_pos ⟨i2, i3⟩] at hs
  have an := c_Told_leafAt0 (d := d + 1) (mc := 0) (ms := 0) lay hD ct nl (r := r) (c := c) (by omega) (by omega)
  have es : sLeaf T Ts 0 (r : Int) (c : Int) = (wy (Ts.getD 0 []) r c 9 0 : Int) := by
    unfold sLeaf lfOf
    rw [if_pos hi]
    rfl
  rw [es]
  obtain ⟨v, hv⟩ : ∃ v, v = wy (Ts.getD 0 []) r c 9 0 := ⟨_, rfl⟩
  rw [← hv] at an ⊢
  show Wp (d + 5) 143 0 [(2, ((1 : Nat) : Int)), (0, 0), (0, (r : Int)), (0, (c : Int))] [] M mc ms _
  refine g_aload_n lk_143_0 rfl ?_
  refine g_iload_n lk_143_1 rfl ?_
  refine g_virtual (p := 1) (Qc := _) lk_143_2 rfl (Nat.le_of_ble_eq_true rfl) rfl rfl (lay.on (by decide) rfl) (Nat.le_of_ble_eq_true rfl) (Nat.le_of_ble_eq_true rfl) (Nat.zero_le _) (Nat.zero_le _) (it) ?_
  rintro _ N1 ⟨rfl, hN1⟩
  rw [hN1]
  show Wp _ 143 5 [(2, ((1 : Nat) : Int)), (0, 0), (0, (r : Int)), (0, (c : Int))] [(0, 1)] M _ _ _
  refine g_if (t := 34) lk_143_5 rfl (by first | (unfold pm_inI; omega) | exact pm_and_in _ _ | exact pm_shr_in _ _ | exact pm_or_in _ _ | exact pm_xor_in _ _ | exact pm_shl_in _ _ | exact pm_cmp_in _ _ | exact pm_b8_in _ | (unfold pm_inI; split <;> omega)) (fun h => absurd h (show ¬ ((1 : Int) = (0 : Int)) by omega)) (fun _ => ?_)
  refine g_aload_n lk_143_8 rfl ?_
  refine g_getfield lk_143_9 rfl (lay.on (by decide) rfl) (v := ((24 : Nat) : Int)) (lay.rf rfl) ?_
  refine g_iload_n lk_143_12 rfl ?_
  refine g_iload_n lk_143_13 rfl ?_
  refine g_virtual (p := 24) (Qc := _) lk_143_14 rfl (Nat.le_of_ble_eq_true rfl) rfl rfl (lay.on (by decide) rfl) (Nat.le_of_ble_eq_true rfl) (Nat.le_of_ble_eq_true rfl) (Nat.zero_le _) (Nat.zero_le _) (hs) ?_
  rintro _ N2 ⟨rfl, hN2⟩
  rw [hN2]
  show Wp _ 143 17 [(2, ((1 : Nat) : Int)), (0, 0), (0, (r : Int)), (0, (c : Int))] [(0, 1)] M _ _ _
  refine g_if (t := 34) lk_143_17 rfl (by first | (unfold pm_inI; omega) | exact pm_and_in _ _ | exact pm_shr_in _ _ | exact pm_or_in _ _ | exact pm_xor_in _ _ | exact pm_shl_in _ _ | exact pm_cmp_in _ _ | exact pm_b8_in _ | (unfold pm_inI; split <;> omega)) (fun h => absurd h (show ¬ ((1 : Int) = (0 : Int)) by omega)) (fun _ => ?_)
  refine g_aload_n lk_143_20 rfl ?_
  refine g_getfield lk_143_21 rfl (lay.on (by decide) rfl) (v := ((26 : Nat) : Int)) (lay.rf rfl) ?_
  refine g_iload_n lk_143_24 rfl ?_
  refine g_aaload lk_143_25 (by decide) (lay.ay (by decide) rfl) (by omega) (v := ((54 : Nat) : Int)) (lay.rf rfl) ?_
  refine g_iload_n lk_143_26 rfl ?_
  refine g_iload_n lk_143_27 rfl ?_
  refine g_virtual (p := 54) (Qc := _) lk_143_28 rfl (Nat.le_of_ble_eq_true rfl) rfl rfl (lay.on (by decide) rfl) (Nat.le_of_ble_eq_true rfl) (Nat.le_of_ble_eq_true rfl) (Nat.zero_le _) (Nat.zero_le _) (an) ?_
  rintro _ N3 ⟨rfl, hN3⟩
  rw [hN3]
  show Wp _ 143 31 [(2, ((1 : Nat) : Int)), (0, 0), (0, (r : Int)), (0, (c : Int))] [(0, (v : Int))] M _ _ _
  refine g_goto (t := 35) lk_143_31 rfl ?_
  refine g_ireturn lk_143_35 (fun h => absurd h (by decide)) ?_
  exact ⟨rfl, rfl⟩
theorem c_X_answer1 {d mc ms : Nat} {M : pm_M} (lay : Lay M) {T : Tab} (hT : TabOK T) (hM : TbAt M 24 T) {Ts : List (List Nd)} (hTs : TsAt M Ts) {r c : Nat} (hi : asked T Ts 1 (r : Int) (c : Int)) :
    pm_E (d + 5) 141 [(2, ((1 : Nat) : Int)), (0, 1), (0, (r : Int)), (0, (c : Int))] M mc ms (fun ρ M' => ρ = some (0, sAns T Ts 1 (r : Int) (c : Int)) ∧ M' = M) := by
  obtain ⟨i1, i2, i3⟩ := id hi
  have hR := hT.1
  have hC := hT.2.1
  obtain ⟨⟨ct, nl⟩, dp, hD⟩ := hTs.2.2 1 (by omega)
  have it := c_X_isTree (d := d + 4) (mc := 0) (ms := 0) lay hTs (t := 1) (by unfold pm_inI; omega)
  rw [if_pos i1] at it
  have hs := c_Table_has (d := d + 4) (mc := 0) (ms := 0) lay (Or.inr rfl) hT hM (r := (r : Int)) (c := (c : Int)) (by unfold pm_inI; omega) (by unfold pm_inI; omega)
  rw [if_pos ⟨i2, i3⟩] at hs
  have an := c_Told_answerAt1 (d := d) (mc := 0) (ms := 0) lay hD ct nl (r := r) (c := c) (by omega) (by omega)
  have es : sAns T Ts 1 (r : Int) (c : Int) = ((ndA (Ts.getD 1 []) (wy (Ts.getD 1 []) r c 9 0)).2.1 : Int) := by
    unfold sAns lfOf
    rw [if_pos hi]
    rfl
  rw [es]
  obtain ⟨v, hv⟩ : ∃ v, v = (ndA (Ts.getD 1 []) (wy (Ts.getD 1 []) r c 9 0)).2.1 := ⟨_, rfl⟩
  rw [← hv] at an ⊢
  show Wp (d + 5) 141 0 [(2, ((1 : Nat) : Int)), (0, 1), (0, (r : Int)), (0, (c : Int))] [] M mc ms _
  refine g_aload_n lk_141_0 rfl ?_
  refine g_iload_n lk_141_1 rfl ?_
  refine g_virtual (p := 1) (Qc := _) lk_141_2 rfl (Nat.le_of_ble_eq_true rfl) rfl rfl (lay.on (by decide) rfl) (Nat.le_of_ble_eq_true rfl) (Nat.le_of_ble_eq_true rfl) (Nat.zero_le _) (Nat.zero_le _) (it) ?_
  rintro _ N1 ⟨rfl, hN1⟩
  rw [hN1]
  show Wp _ 141 5 [(2, ((1 : Nat) : Int)), (0, 1), (0, (r : Int)), (0, (c : Int))] [(0, 1)] M _ _ _
  refine g_if (t := 20) lk_141_5 rfl (by first | (unfold pm_inI; omega) | exact pm_and_in _ _ | exact pm_shr_in _ _ | exact pm_or_in _ _ | exact pm_xor_in _ _ | exact pm_shl_in _ _ | exact pm_cmp_in _ _ | exact pm_b8_in _ | (unfold pm_inI; split <;> omega)) (fun h => absurd h (show ¬ ((1 : Int) = (0 : Int)) by omega)) (fun _ => ?_)
  refine g_aload_n lk_141_8 rfl ?_
  refine g_getfield lk_141_9 rfl (lay.on (by decide) rfl) (v := ((24 : Nat) : Int)) (lay.rf rfl) ?_
  refine g_iload_n lk_141_12 rfl ?_
  refine g_iload_n lk_141_13 rfl ?_
  refine g_virtual (p := 24) (Qc := _) lk_141_14 rfl (Nat.le_of_ble_eq_true rfl) rfl rfl (lay.on (by decide) rfl) (Nat.le_of_ble_eq_true rfl) (Nat.le_of_ble_eq_true rfl) (Nat.zero_le _) (Nat.zero_le _) (hs) ?_
  rintro _ N2 ⟨rfl, hN2⟩
  rw [hN2]
  show Wp _ 141 17 [(2, ((1 : Nat) : Int)), (0, 1), (0, (r : Int)), (0, (c : Int))] [(0, 1)] M _ _ _
  refine g_if (t := 22) lk_141_17 rfl (by first | (unfold pm_inI; omega) | exact pm_and_in _ _ | exact pm_shr_in _ _ | exact pm_or_in _ _ | exact pm_xor_in _ _ | exact pm_shl_in _ _ | exact pm_cmp_in _ _ | exact pm_b8_in _ | (unfold pm_inI; split <;> omega)) (fun _ => ?_) (fun h => absurd (show ¬ (1 : Int) = (0 : Int) by omega) h)
  refine g_aload_n lk_141_22 rfl ?_
  refine g_getfield lk_141_23 rfl (lay.on (by decide) rfl) (v := ((26 : Nat) : Int)) (lay.rf rfl) ?_
  refine g_iload_n lk_141_26 rfl ?_
  refine g_aaload lk_141_27 (by decide) (lay.ay (by decide) rfl) (by omega) (v := ((65 : Nat) : Int)) (lay.rf rfl) ?_
  refine g_iload_n lk_141_28 rfl ?_
  refine g_iload_n lk_141_29 rfl ?_
  refine g_virtual (p := 65) (Qc := _) lk_141_30 rfl (Nat.le_of_ble_eq_true rfl) rfl rfl (lay.on (by decide) rfl) (Nat.le_of_ble_eq_true rfl) (Nat.le_of_ble_eq_true rfl) (Nat.zero_le _) (Nat.zero_le _) (an) ?_
  rintro _ N3 ⟨rfl, hN3⟩
  rw [hN3]
  show Wp _ 141 33 [(2, ((1 : Nat) : Int)), (0, 1), (0, (r : Int)), (0, (c : Int))] [(0, (v : Int))] M _ _ _
  refine g_ireturn lk_141_33 (fun h => absurd h (by decide)) ?_
  exact ⟨rfl, rfl⟩
theorem c_X_leaf1 {d mc ms : Nat} {M : pm_M} (lay : Lay M) {T : Tab} (hT : TabOK T) (hM : TbAt M 24 T) {Ts : List (List Nd)} (hTs : TsAt M Ts) {r c : Nat} (hi : asked T Ts 1 (r : Int) (c : Int)) :
    pm_E (d + 5) 143 [(2, ((1 : Nat) : Int)), (0, 1), (0, (r : Int)), (0, (c : Int))] M mc ms (fun ρ M' => ρ = some (0, sLeaf T Ts 1 (r : Int) (c : Int)) ∧ M' = M) := by
  obtain ⟨i1, i2, i3⟩ := id hi
  have hR := hT.1
  have hC := hT.2.1
  obtain ⟨⟨ct, nl⟩, dp, hD⟩ := hTs.2.2 1 (by omega)
  have it := c_X_isTree (d := d + 4) (mc := 0) (ms := 0) lay hTs (t := 1) (by unfold pm_inI; omega)
  rw [if_pos i1] at it
  have hs := c_Table_has (d := d + 4) (mc := 0) (ms := 0) lay (Or.inr rfl) hT hM (r := (r : Int)) (c := (c : Int)) (by unfold pm_inI; omega) (by unfold pm_inI; omega)
  rw [if_pos ⟨i2, i3⟩] at hs
  have an := c_Told_leafAt1 (d := d + 1) (mc := 0) (ms := 0) lay hD ct nl (r := r) (c := c) (by omega) (by omega)
  have es : sLeaf T Ts 1 (r : Int) (c : Int) = (wy (Ts.getD 1 []) r c 9 0 : Int) := by
    unfold sLeaf lfOf
    rw [if_pos hi]
    rfl
  rw [es]
  obtain ⟨v, hv⟩ : ∃ v, v = wy (Ts.getD 1 []) r c 9 0 := ⟨_, rfl⟩
  rw [← hv] at an ⊢
  show Wp (d + 5) 143 0 [(2, ((1 : Nat) : Int)), (0, 1), (0, (r : Int)), (0, (c : Int))] [] M mc ms _
  refine g_aload_n lk_143_0 rfl ?_
  refine g_iload_n lk_143_1 rfl ?_
  refine g_virtual (p := 1) (Qc := _) lk_143_2 rfl (Nat.le_of_ble_eq_true rfl) rfl rfl (lay.on (by decide) rfl) (Nat.le_of_ble_eq_true rfl) (Nat.le_of_ble_eq_true rfl) (Nat.zero_le _) (Nat.zero_le _) (it) ?_
  rintro _ N1 ⟨rfl, hN1⟩
  rw [hN1]
  show Wp _ 143 5 [(2, ((1 : Nat) : Int)), (0, 1), (0, (r : Int)), (0, (c : Int))] [(0, 1)] M _ _ _
  refine g_if (t := 34) lk_143_5 rfl (by first | (unfold pm_inI; omega) | exact pm_and_in _ _ | exact pm_shr_in _ _ | exact pm_or_in _ _ | exact pm_xor_in _ _ | exact pm_shl_in _ _ | exact pm_cmp_in _ _ | exact pm_b8_in _ | (unfold pm_inI; split <;> omega)) (fun h => absurd h (show ¬ ((1 : Int) = (0 : Int)) by omega)) (fun _ => ?_)
  refine g_aload_n lk_143_8 rfl ?_
  refine g_getfield lk_143_9 rfl (lay.on (by decide) rfl) (v := ((24 : Nat) : Int)) (lay.rf rfl) ?_
  refine g_iload_n lk_143_12 rfl ?_
  refine g_iload_n lk_143_13 rfl ?_
  refine g_virtual (p := 24) (Qc := _) lk_143_14 rfl (Nat.le_of_ble_eq_true rfl) rfl rfl (lay.on (by decide) rfl) (Nat.le_of_ble_eq_true rfl) (Nat.le_of_ble_eq_true rfl) (Nat.zero_le _) (Nat.zero_le _) (hs) ?_
  rintro _ N2 ⟨rfl, hN2⟩
  rw [hN2]
  show Wp _ 143 17 [(2, ((1 : Nat) : Int)), (0, 1), (0, (r : Int)), (0, (c : Int))] [(0, 1)] M _ _ _
  refine g_if (t := 34) lk_143_17 rfl (by first | (unfold pm_inI; omega) | exact pm_and_in _ _ | exact pm_shr_in _ _ | exact pm_or_in _ _ | exact pm_xor_in _ _ | exact pm_shl_in _ _ | exact pm_cmp_in _ _ | exact pm_b8_in _ | (unfold pm_inI; split <;> omega)) (fun h => absurd h (show ¬ ((1 : Int) = (0 : Int)) by omega)) (fun _ => ?_)
  refine g_aload_n lk_143_20 rfl ?_
  refine g_getfield lk_143_21 rfl (lay.on (by decide) rfl) (v := ((26 : Nat) : Int)) (lay.rf rfl) ?_
  refine g_iload_n lk_143_24 rfl ?_
  refine g_aaload lk_143_25 (by decide) (lay.ay (by decide) rfl) (by omega) (v := ((65 : Nat) : Int)) (lay.rf rfl) ?_
  refine g_iload_n lk_143_26 rfl ?_
  refine g_iload_n lk_143_27 rfl ?_
  refine g_virtual (p := 65) (Qc := _) lk_143_28 rfl (Nat.le_of_ble_eq_true rfl) rfl rfl (lay.on (by decide) rfl) (Nat.le_of_ble_eq_true rfl) (Nat.le_of_ble_eq_true rfl) (Nat.zero_le _) (Nat.zero_le _) (an) ?_
  rintro _ N3 ⟨rfl, hN3⟩
  rw [hN3]
  show Wp _ 143 31 [(2, ((1 : Nat) : Int)), (0, 1), (0, (r : Int)), (0, (c : Int))] [(0, (v : Int))] M _ _ _
  refine g_goto (t := 35) lk_143_31 rfl ?_
  refine g_ireturn lk_143_35 (fun h => absurd h (by decide)) ?_
  exact ⟨rfl, rfl⟩
theorem c_X_answer2 {d mc ms : Nat} {M : pm_M} (lay : Lay M) {T : Tab} (hT : TabOK T) (hM : TbAt M 24 T) {Ts : List (List Nd)} (hTs : TsAt M Ts) {r c : Nat} (hi : asked T Ts 2 (r : Int) (c : Int)) :
    pm_E (d + 5) 141 [(2, ((1 : Nat) : Int)), (0, 2), (0, (r : Int)), (0, (c : Int))] M mc ms (fun ρ M' => ρ = some (0, sAns T Ts 2 (r : Int) (c : Int)) ∧ M' = M) := by
  obtain ⟨i1, i2, i3⟩ := id hi
  have hR := hT.1
  have hC := hT.2.1
  obtain ⟨⟨ct, nl⟩, dp, hD⟩ := hTs.2.2 2 (by omega)
  have it := c_X_isTree (d := d + 4) (mc := 0) (ms := 0) lay hTs (t := 2) (by unfold pm_inI; omega)
  rw [if_pos i1] at it
  have hs := c_Table_has (d := d + 4) (mc := 0) (ms := 0) lay (Or.inr rfl) hT hM (r := (r : Int)) (c := (c : Int)) (by unfold pm_inI; omega) (by unfold pm_inI; omega)
  rw [if_pos ⟨i2, i3⟩] at hs
  have an := c_Told_answerAt2 (d := d) (mc := 0) (ms := 0) lay hD ct nl (r := r) (c := c) (by omega) (by omega)
  have es : sAns T Ts 2 (r : Int) (c : Int) = ((ndA (Ts.getD 2 []) (wy (Ts.getD 2 []) r c 9 0)).2.1 : Int) := by
    unfold sAns lfOf
    rw [if_pos hi]
    rfl
  rw [es]
  obtain ⟨v, hv⟩ : ∃ v, v = (ndA (Ts.getD 2 []) (wy (Ts.getD 2 []) r c 9 0)).2.1 := ⟨_, rfl⟩
  rw [← hv] at an ⊢
  show Wp (d + 5) 141 0 [(2, ((1 : Nat) : Int)), (0, 2), (0, (r : Int)), (0, (c : Int))] [] M mc ms _
  refine g_aload_n lk_141_0 rfl ?_
  refine g_iload_n lk_141_1 rfl ?_
  refine g_virtual (p := 1) (Qc := _) lk_141_2 rfl (Nat.le_of_ble_eq_true rfl) rfl rfl (lay.on (by decide) rfl) (Nat.le_of_ble_eq_true rfl) (Nat.le_of_ble_eq_true rfl) (Nat.zero_le _) (Nat.zero_le _) (it) ?_
  rintro _ N1 ⟨rfl, hN1⟩
  rw [hN1]
  show Wp _ 141 5 [(2, ((1 : Nat) : Int)), (0, 2), (0, (r : Int)), (0, (c : Int))] [(0, 1)] M _ _ _
  refine g_if (t := 20) lk_141_5 rfl (by first | (unfold pm_inI; omega) | exact pm_and_in _ _ | exact pm_shr_in _ _ | exact pm_or_in _ _ | exact pm_xor_in _ _ | exact pm_shl_in _ _ | exact pm_cmp_in _ _ | exact pm_b8_in _ | (unfold pm_inI; split <;> omega)) (fun h => absurd h (show ¬ ((1 : Int) = (0 : Int)) by omega)) (fun _ => ?_)
  refine g_aload_n lk_141_8 rfl ?_
  refine g_getfield lk_141_9 rfl (lay.on (by decide) rfl) (v := ((24 : Nat) : Int)) (lay.rf rfl) ?_
  refine g_iload_n lk_141_12 rfl ?_
  refine g_iload_n lk_141_13 rfl ?_
  refine g_virtual (p := 24) (Qc := _) lk_141_14 rfl (Nat.le_of_ble_eq_true rfl) rfl rfl (lay.on (by decide) rfl) (Nat.le_of_ble_eq_true rfl) (Nat.le_of_ble_eq_true rfl) (Nat.zero_le _) (Nat.zero_le _) (hs) ?_
  rintro _ N2 ⟨rfl, hN2⟩
  rw [hN2]
  show Wp _ 141 17 [(2, ((1 : Nat) : Int)), (0, 2), (0, (r : Int)), (0, (c : Int))] [(0, 1)] M _ _ _
  refine g_if (t := 22) lk_141_17 rfl (by first | (unfold pm_inI; omega) | exact pm_and_in _ _ | exact pm_shr_in _ _ | exact pm_or_in _ _ | exact pm_xor_in _ _ | exact pm_shl_in _ _ | exact pm_cmp_in _ _ | exact pm_b8_in _ | (unfold pm_inI; split <;> omega)) (fun _ => ?_) (fun h => absurd (show ¬ (1 : Int) = (0 : Int) by omega) h)
  refine g_aload_n lk_141_22 rfl ?_
  refine g_getfield lk_141_23 rfl (lay.on (by decide) rfl) (v := ((26 : Nat) : Int)) (lay.rf rfl) ?_
  refine g_iload_n lk_141_26 rfl ?_
  refine g_aaload lk_141_27 (by decide) (lay.ay (by decide) rfl) (by omega) (v := ((76 : Nat) : Int)) (lay.rf rfl) ?_
  refine g_iload_n lk_141_28 rfl ?_
  refine g_iload_n lk_141_29 rfl ?_
  refine g_virtual (p := 76) (Qc := _) lk_141_30 rfl (Nat.le_of_ble_eq_true rfl) rfl rfl (lay.on (by decide) rfl) (Nat.le_of_ble_eq_true rfl) (Nat.le_of_ble_eq_true rfl) (Nat.zero_le _) (Nat.zero_le _) (an) ?_
  rintro _ N3 ⟨rfl, hN3⟩
  rw [hN3]
  show Wp _ 141 33 [(2, ((1 : Nat) : Int)), (0, 2), (0, (r : Int)), (0, (c : Int))] [(0, (v : Int))] M _ _ _
  refine g_ireturn lk_141_33 (fun h => absurd h (by decide)) ?_
  exact ⟨rfl, rfl⟩
theorem c_X_leaf2 {d mc ms : Nat} {M : pm_M} (lay : Lay M) {T : Tab} (hT : TabOK T) (hM : TbAt M 24 T) {Ts : List (List Nd)} (hTs : TsAt M Ts) {r c : Nat} (hi : asked T Ts 2 (r : Int) (c : Int)) :
    pm_E (d + 5) 143 [(2, ((1 : Nat) : Int)), (0, 2), (0, (r : Int)), (0, (c : Int))] M mc ms (fun ρ M' => ρ = some (0, sLeaf T Ts 2 (r : Int) (c : Int)) ∧ M' = M) := by
  obtain ⟨i1, i2, i3⟩ := id hi
  have hR := hT.1
  have hC := hT.2.1
  obtain ⟨⟨ct, nl⟩, dp, hD⟩ := hTs.2.2 2 (by omega)
  have it := c_X_isTree (d := d + 4) (mc := 0) (ms := 0) lay hTs (t := 2) (by unfold pm_inI; omega)
  rw [if_pos i1] at it
  have hs := c_Table_has (d := d + 4) (mc := 0) (ms := 0) lay (Or.inr rfl) hT hM (r := (r : Int)) (c := (c : Int)) (by unfold pm_inI; omega) (by unfold pm_inI; omega)
  rw [if_pos ⟨i2, i3⟩] at hs
  have an := c_Told_leafAt2 (d := d + 1) (mc := 0) (ms := 0) lay hD ct nl (r := r) (c := c) (by omega) (by omega)
  have es : sLeaf T Ts 2 (r : Int) (c : Int) = (wy (Ts.getD 2 []) r c 9 0 : Int) := by
    unfold sLeaf lfOf
    rw [if_pos hi]
    rfl
  rw [es]
  obtain ⟨v, hv⟩ : ∃ v, v = wy (Ts.getD 2 []) r c 9 0 := ⟨_, rfl⟩
  rw [← hv] at an ⊢
  show Wp (d + 5) 143 0 [(2, ((1 : Nat) : Int)), (0, 2), (0, (r : Int)), (0, (c : Int))] [] M mc ms _
  refine g_aload_n lk_143_0 rfl ?_
  refine g_iload_n lk_143_1 rfl ?_
  refine g_virtual (p := 1) (Qc := _) lk_143_2 rfl (Nat.le_of_ble_eq_true rfl) rfl rfl (lay.on (by decide) rfl) (Nat.le_of_ble_eq_true rfl) (Nat.le_of_ble_eq_true rfl) (Nat.zero_le _) (Nat.zero_le _) (it) ?_
  rintro _ N1 ⟨rfl, hN1⟩
  rw [hN1]
  show Wp _ 143 5 [(2, ((1 : Nat) : Int)), (0, 2), (0, (r : Int)), (0, (c : Int))] [(0, 1)] M _ _ _
  refine g_if (t := 34) lk_143_5 rfl (by first | (unfold pm_inI; omega) | exact pm_and_in _ _ | exact pm_shr_in _ _ | exact pm_or_in _ _ | exact pm_xor_in _ _ | exact pm_shl_in _ _ | exact pm_cmp_in _ _ | exact pm_b8_in _ | (unfold pm_inI; split <;> omega)) (fun h => absurd h (show ¬ ((1 : Int) = (0 : Int)) by omega)) (fun _ => ?_)
  refine g_aload_n lk_143_8 rfl ?_
  refine g_getfield lk_143_9 rfl (lay.on (by decide) rfl) (v := ((24 : Nat) : Int)) (lay.rf rfl) ?_
  refine g_iload_n lk_143_12 rfl ?_
  refine g_iload_n lk_143_13 rfl ?_
  refine g_virtual (p := 24) (Qc := _) lk_143_14 rfl (Nat.le_of_ble_eq_true rfl) rfl rfl (lay.on (by decide) rfl) (Nat.le_of_ble_eq_true rfl) (Nat.le_of_ble_eq_true rfl) (Nat.zero_le _) (Nat.zero_le _) (hs) ?_
  rintro _ N2 ⟨rfl, hN2⟩
  rw [hN2]
  show Wp _ 143 17 [(2, ((1 : Nat) : Int)), (0, 2), (0, (r : Int)), (0, (c : Int))] [(0, 1)] M _ _ _
  refine g_if (t := 34) lk_143_17 rfl (by first | (unfold pm_inI; omega) | exact pm_and_in _ _ | exact pm_shr_in _ _ | exact pm_or_in _ _ | exact pm_xor_in _ _ | exact pm_shl_in _ _ | exact pm_cmp_in _ _ | exact pm_b8_in _ | (unfold pm_inI; split <;> omega)) (fun h => absurd h (show ¬ ((1 : Int) = (0 : Int)) by omega)) (fun _ => ?_)
  refine g_aload_n lk_143_20 rfl ?_
  refine g_getfield lk_143_21 rfl (lay.on (by decide) rfl) (v := ((26 : Nat) : Int)) (lay.rf rfl) ?_
  refine g_iload_n lk_143_24 rfl ?_
  refine g_aaload lk_143_25 (by decide) (lay.ay (by decide) rfl) (by omega) (v := ((76 : Nat) : Int)) (lay.rf rfl) ?_
  refine g_iload_n lk_143_26 rfl ?_
  refine g_iload_n lk_143_27 rfl ?_
  refine g_virtual (p := 76) (Qc := _) lk_143_28 rfl (Nat.le_of_ble_eq_true rfl) rfl rfl (lay.on (by decide) rfl) (Nat.le_of_ble_eq_true rfl) (Nat.le_of_ble_eq_true rfl) (Nat.zero_le _) (Nat.zero_le _) (an) ?_
  rintro _ N3 ⟨rfl, hN3⟩
  rw [hN3]
  show Wp _ 143 31 [(2, ((1 : Nat) : Int)), (0, 2), (0, (r : Int)), (0, (c : Int))] [(0, (v : Int))] M _ _ _
  refine g_goto (t := 35) lk_143_31 rfl ?_
  refine g_ireturn lk_143_35 (fun h => absurd h (by decide)) ?_
  exact ⟨rfl, rfl⟩
theorem c_X_answer3 {d mc ms : Nat} {M : pm_M} (lay : Lay M) {T : Tab} (hT : TabOK T) (hM : TbAt M 24 T) {Ts : List (List Nd)} (hTs : TsAt M Ts) {r c : Nat} (hi : asked T Ts 3 (r : Int) (c : Int)) :
    pm_E (d + 5) 141 [(2, ((1 : Nat) : Int)), (0, 3), (0, (r : Int)), (0, (c : Int))] M mc ms (fun ρ M' => ρ = some (0, sAns T Ts 3 (r : Int) (c : Int)) ∧ M' = M) := by
  obtain ⟨i1, i2, i3⟩ := id hi
  have hR := hT.1
  have hC := hT.2.1
  obtain ⟨⟨ct, nl⟩, dp, hD⟩ := hTs.2.2 3 (by omega)
  have it := c_X_isTree (d := d + 4) (mc := 0) (ms := 0) lay hTs (t := 3) (by unfold pm_inI; omega)
  rw [if_pos i1] at it
  have hs := c_Table_has (d := d + 4) (mc := 0) (ms := 0) lay (Or.inr rfl) hT hM (r := (r : Int)) (c := (c : Int)) (by unfold pm_inI; omega) (by unfold pm_inI; omega)
  rw [if_pos ⟨i2, i3⟩] at hs
  have an := c_Told_answerAt3 (d := d) (mc := 0) (ms := 0) lay hD ct nl (r := r) (c := c) (by omega) (by omega)
  have es : sAns T Ts 3 (r : Int) (c : Int) = ((ndA (Ts.getD 3 []) (wy (Ts.getD 3 []) r c 9 0)).2.1 : Int) := by
    unfold sAns lfOf
    rw [if_pos hi]
    rfl
  rw [es]
  obtain ⟨v, hv⟩ : ∃ v, v = (ndA (Ts.getD 3 []) (wy (Ts.getD 3 []) r c 9 0)).2.1 := ⟨_, rfl⟩
  rw [← hv] at an ⊢
  show Wp (d + 5) 141 0 [(2, ((1 : Nat) : Int)), (0, 3), (0, (r : Int)), (0, (c : Int))] [] M mc ms _
  refine g_aload_n lk_141_0 rfl ?_
  refine g_iload_n lk_141_1 rfl ?_
  refine g_virtual (p := 1) (Qc := _) lk_141_2 rfl (Nat.le_of_ble_eq_true rfl) rfl rfl (lay.on (by decide) rfl) (Nat.le_of_ble_eq_true rfl) (Nat.le_of_ble_eq_true rfl) (Nat.zero_le _) (Nat.zero_le _) (it) ?_
  rintro _ N1 ⟨rfl, hN1⟩
  rw [hN1]
  show Wp _ 141 5 [(2, ((1 : Nat) : Int)), (0, 3), (0, (r : Int)), (0, (c : Int))] [(0, 1)] M _ _ _
  refine g_if (t := 20) lk_141_5 rfl (by first | (unfold pm_inI; omega) | exact pm_and_in _ _ | exact pm_shr_in _ _ | exact pm_or_in _ _ | exact pm_xor_in _ _ | exact pm_shl_in _ _ | exact pm_cmp_in _ _ | exact pm_b8_in _ | (unfold pm_inI; split <;> omega)) (fun h => absurd h (show ¬ ((1 : Int) = (0 : Int)) by omega)) (fun _ => ?_)
  refine g_aload_n lk_141_8 rfl ?_
  refine g_getfield lk_141_9 rfl (lay.on (by decide) rfl) (v := ((24 : Nat) : Int)) (lay.rf rfl) ?_
  refine g_iload_n lk_141_12 rfl ?_
  refine g_iload_n lk_141_13 rfl ?_
  refine g_virtual (p := 24) (Qc := _) lk_141_14 rfl (Nat.le_of_ble_eq_true rfl) rfl rfl (lay.on (by decide) rfl) (Nat.le_of_ble_eq_true rfl) (Nat.le_of_ble_eq_true rfl) (Nat.zero_le _) (Nat.zero_le _) (hs) ?_
  rintro _ N2 ⟨rfl, hN2⟩
  rw [hN2]
  show Wp _ 141 17 [(2, ((1 : Nat) : Int)), (0, 3), (0, (r : Int)), (0, (c : Int))] [(0, 1)] M _ _ _
  refine g_if (t := 22) lk_141_17 rfl (by first | (unfold pm_inI; omega) | exact pm_and_in _ _ | exact pm_shr_in _ _ | exact pm_or_in _ _ | exact pm_xor_in _ _ | exact pm_shl_in _ _ | exact pm_cmp_in _ _ | exact pm_b8_in _ | (unfold pm_inI; split <;> omega)) (fun _ => ?_) (fun h => absurd (show ¬ (1 : Int) = (0 : Int) by omega) h)
  refine g_aload_n lk_141_22 rfl ?_
  refine g_getfield lk_141_23 rfl (lay.on (by decide) rfl) (v := ((26 : Nat) : Int)) (lay.rf rfl) ?_
  refine g_iload_n lk_141_26 rfl ?_
  refine g_aaload lk_141_27 (by decide) (lay.ay (by decide) rfl) (by omega) (v := ((87 : Nat) : Int)) (lay.rf rfl) ?_
  refine g_iload_n lk_141_28 rfl ?_
  refine g_iload_n lk_141_29 rfl ?_
  refine g_virtual (p := 87) (Qc := _) lk_141_30 rfl (Nat.le_of_ble_eq_true rfl) rfl rfl (lay.on (by decide) rfl) (Nat.le_of_ble_eq_true rfl) (Nat.le_of_ble_eq_true rfl) (Nat.zero_le _) (Nat.zero_le _) (an) ?_
  rintro _ N3 ⟨rfl, hN3⟩
  rw [hN3]
  show Wp _ 141 33 [(2, ((1 : Nat) : Int)), (0, 3), (0, (r : Int)), (0, (c : Int))] [(0, (v : Int))] M _ _ _
  refine g_ireturn lk_141_33 (fun h => absurd h (by decide)) ?_
  exact ⟨rfl, rfl⟩
theorem c_X_leaf3 {d mc ms : Nat} {M : pm_M} (lay : Lay M) {T : Tab} (hT : TabOK T) (hM : TbAt M 24 T) {Ts : List (List Nd)} (hTs : TsAt M Ts) {r c : Nat} (hi : asked T Ts 3 (r : Int) (c : Int)) :
    pm_E (d + 5) 143 [(2, ((1 : Nat) : Int)), (0, 3), (0, (r : Int)), (0, (c : Int))] M mc ms (fun ρ M' => ρ = some (0, sLeaf T Ts 3 (r : Int) (c : Int)) ∧ M' = M) := by
  obtain ⟨i1, i2, i3⟩ := id hi
  have hR := hT.1
  have hC := hT.2.1
  obtain ⟨⟨ct, nl⟩, dp, hD⟩ := hTs.2.2 3 (by omega)
  have it := c_X_isTree (d := d + 4) (mc := 0) (ms := 0) lay hTs (t := 3) (by unfold pm_inI; omega)
  rw [if_pos i1] at it
  have hs := c_Table_has (d := d + 4) (mc := 0) (ms := 0) lay (Or.inr rfl) hT hM (r := (r : Int)) (c := (c : Int)) (by unfold pm_inI; omega) (by unfold pm_inI; omega)
  rw [if_pos ⟨i2, i3⟩] at hs
  have an := c_Told_leafAt3 (d := d + 1) (mc := 0) (ms := 0) lay hD ct nl (r := r) (c := c) (by omega) (by omega)
  have es : sLeaf T Ts 3 (r : Int) (c : Int) = (wy (Ts.getD 3 []) r c 9 0 : Int) := by
    unfold sLeaf lfOf
    rw [if_pos hi]
    rfl
  rw [es]
  obtain ⟨v, hv⟩ : ∃ v, v = wy (Ts.getD 3 []) r c 9 0 := ⟨_, rfl⟩
  rw [← hv] at an ⊢
  show Wp (d + 5) 143 0 [(2, ((1 : Nat) : Int)), (0, 3), (0, (r : Int)), (0, (c : Int))] [] M mc ms _
  refine g_aload_n lk_143_0 rfl ?_
  refine g_iload_n lk_143_1 rfl ?_
  refine g_virtual (p := 1) (Qc := _) lk_143_2 rfl (Nat.le_of_ble_eq_true rfl) rfl rfl (lay.on (by decide) rfl) (Nat.le_of_ble_eq_true rfl) (Nat.le_of_ble_eq_true rfl) (Nat.zero_le _) (Nat.zero_le _) (it) ?_
  rintro _ N1 ⟨rfl, hN1⟩
  rw [hN1]
  show Wp _ 143 5 [(2, ((1 : Nat) : Int)), (0, 3), (0, (r : Int)), (0, (c : Int))] [(0, 1)] M _ _ _
  refine g_if (t := 34) lk_143_5 rfl (by first | (unfold pm_inI; omega) | exact pm_and_in _ _ | exact pm_shr_in _ _ | exact pm_or_in _ _ | exact pm_xor_in _ _ | exact pm_shl_in _ _ | exact pm_cmp_in _ _ | exact pm_b8_in _ | (unfold pm_inI; split <;> omega)) (fun h => absurd h (show ¬ ((1 : Int) = (0 : Int)) by omega)) (fun _ => ?_)
  refine g_aload_n lk_143_8 rfl ?_
  refine g_getfield lk_143_9 rfl (lay.on (by decide) rfl) (v := ((24 : Nat) : Int)) (lay.rf rfl) ?_
  refine g_iload_n lk_143_12 rfl ?_
  refine g_iload_n lk_143_13 rfl ?_
  refine g_virtual (p := 24) (Qc := _) lk_143_14 rfl (Nat.le_of_ble_eq_true rfl) rfl rfl (lay.on (by decide) rfl) (Nat.le_of_ble_eq_true rfl) (Nat.le_of_ble_eq_true rfl) (Nat.zero_le _) (Nat.zero_le _) (hs) ?_
  rintro _ N2 ⟨rfl, hN2⟩
  rw [hN2]
  show Wp _ 143 17 [(2, ((1 : Nat) : Int)), (0, 3), (0, (r : Int)), (0, (c : Int))] [(0, 1)] M _ _ _
  refine g_if (t := 34) lk_143_17 rfl (by first | (unfold pm_inI; omega) | exact pm_and_in _ _ | exact pm_shr_in _ _ | exact pm_or_in _ _ | exact pm_xor_in _ _ | exact pm_shl_in _ _ | exact pm_cmp_in _ _ | exact pm_b8_in _ | (unfold pm_inI; split <;> omega)) (fun h => absurd h (show ¬ ((1 : Int) = (0 : Int)) by omega)) (fun _ => ?_)
  refine g_aload_n lk_143_20 rfl ?_
  refine g_getfield lk_143_21 rfl (lay.on (by decide) rfl) (v := ((26 : Nat) : Int)) (lay.rf rfl) ?_
  refine g_iload_n lk_143_24 rfl ?_
  refine g_aaload lk_143_25 (by decide) (lay.ay (by decide) rfl) (by omega) (v := ((87 : Nat) : Int)) (lay.rf rfl) ?_
  refine g_iload_n lk_143_26 rfl ?_
  refine g_iload_n lk_143_27 rfl ?_
  refine g_virtual (p := 87) (Qc := _) lk_143_28 rfl (Nat.le_of_ble_eq_true rfl) rfl rfl (lay.on (by decide) rfl) (Nat.le_of_ble_eq_true rfl) (Nat.le_of_ble_eq_true rfl) (Nat.zero_le _) (Nat.zero_le _) (an) ?_
  rintro _ N3 ⟨rfl, hN3⟩
  rw [hN3]
  show Wp _ 143 31 [(2, ((1 : Nat) : Int)), (0, 3), (0, (r : Int)), (0, (c : Int))] [(0, (v : Int))] M _ _ _
  refine g_goto (t := 35) lk_143_31 rfl ?_
  refine g_ireturn lk_143_35 (fun h => absurd h (by decide)) ?_
  exact ⟨rfl, rfl⟩
theorem c_X_answer {d mc ms : Nat} {M : pm_M} (lay : Lay M) {T : Tab} (hT : TabOK T) (hM : TbAt M 24 T) {Ts : List (List Nd)} (hTs : TsAt M Ts) {t r c : Int} (ht : pm_inI t) (hr : pm_inI r) (hc : pm_inI c) :
    pm_E (d + 5) 141 [(2, ((1 : Nat) : Int)), (0, t), (0, r), (0, c)] M mc ms (fun ρ M' => ρ = some (0, sAns T Ts t r c) ∧ M' = M) := by
  by_cases hi : asked T Ts t r c
  · obtain ⟨i1, i2, i3⟩ := id hi
    have l4 := hTs.1
    obtain ⟨r, rfl⟩ := Int.eq_ofNat_of_zero_le i2.1
    obtain ⟨c, rfl⟩ := Int.eq_ofNat_of_zero_le i3.1
    rcases (by omega : t = 0 ∨ t = 1 ∨ t = 2 ∨ t = 3) with e | e | e | e
    · subst e; exact c_X_answer0 lay hT hM hTs hi
    · subst e; exact c_X_answer1 lay hT hM hTs hi
    · subst e; exact c_X_answer2 lay hT hM hTs hi
    · subst e; exact c_X_answer3 lay hT hM hTs hi
  · have es : sAns T Ts t r c = -1 := by unfold sAns; rw [if_neg hi]
    rw [es]
    exact c_X_answerN (d := d + 4) lay hT hM hTs ht hr hc hi
theorem c_X_leaf {d mc ms : Nat} {M : pm_M} (lay : Lay M) {T : Tab} (hT : TabOK T) (hM : TbAt M 24 T) {Ts : List (List Nd)} (hTs : TsAt M Ts) {t r c : Int} (ht : pm_inI t) (hr : pm_inI r) (hc : pm_inI c) :
    pm_E (d + 5) 143 [(2, ((1 : Nat) : Int)), (0, t), (0, r), (0, c)] M mc ms (fun ρ M' => ρ = some (0, sLeaf T Ts t r c) ∧ M' = M) := by
  by_cases hi : asked T Ts t r c
  · obtain ⟨i1, i2, i3⟩ := id hi
    have l4 := hTs.1
    obtain ⟨r, rfl⟩ := Int.eq_ofNat_of_zero_le i2.1
    obtain ⟨c, rfl⟩ := Int.eq_ofNat_of_zero_le i3.1
    rcases (by omega : t = 0 ∨ t = 1 ∨ t = 2 ∨ t = 3) with e | e | e | e
    · subst e; exact c_X_leaf0 lay hT hM hTs hi
    · subst e; exact c_X_leaf1 lay hT hM hTs hi
    · subst e; exact c_X_leaf2 lay hT hM hTs hi
    · subst e; exact c_X_leaf3 lay hT hM hTs hi
  · have es : sLeaf T Ts t r c = -1 := by unfold sLeaf; rw [if_neg hi]
    rw [es]
    exact c_X_leafN (d := d + 4) lay hT hM hTs ht hr hc hi
