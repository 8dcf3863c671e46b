/-! ===== the model's small ones ===== -/
theorem c_Mo_in {d mc ms : Nat} {M : pm_M} {v l h : Int} (hv : pm_inI v) (hl : pm_inI l) (hh : pm_inI h) :
    pm_E d 167 [(0, v), (0, l), (0, h)] M mc ms (fun ρ M' => ρ = some (0, if l ≤ v ∧ v ≤ h then 1 else 0) ∧ M' = M) := by
  show Wp d 167 0 [(0, v), (0, l), (0, h)] [] M mc ms _
  refine g_iload_n lk_167_0 rfl ?_
  refine g_iload_n lk_167_1 rfl ?_
  refine g_icmp (t := 14) lk_167_2 rfl (by assumption) (by assumption) (fun h1 => ?_) (fun h1 => ?_)
  · replace h1 : v < l := h1
    refine g_iconst lk_167_14 ?_
    refine g_ireturn lk_167_15 (fun _ => by omega) ?_
    exact ⟨by rw [if_neg (by omega)], rfl⟩
  · replace h1 : ¬ (v < l) := h1
    refine g_iload_n lk_167_5 rfl ?_
    refine g_iload_n lk_167_6 rfl ?_
    refine g_icmp (t := 14) lk_167_7 rfl (by assumption) (by assumption) (fun h2 => ?_) (fun h2 => ?_)
    · replace h2 : h < v := h2
      refine g_iconst lk_167_14 ?_
      refine g_ireturn lk_167_15 (fun _ => by omega) ?_
      exact ⟨by rw [if_neg (by omega)], rfl⟩
    · replace h2 : ¬ (h < v) := h2
      refine g_iconst lk_167_10 ?_
      refine g_goto (t := 15) lk_167_11 rfl ?_
      refine g_ireturn lk_167_15 (fun _ => by omega) ?_
      exact ⟨by rw [if_pos (by omega)], rfl⟩
theorem c_Mo_isOf {d mc ms : Nat} {M : pm_M} {m s : Nat} (hs : s < 2147483648) (hm : m < 32) :
    pm_E d 168 [(0, (s : Int)), (0, (m : Int))] M mc ms (fun ρ M' => ρ = some (0, if s.testBit m then 1 else 0) ∧ M' = M) := by
  show Wp d 168 0 [(0, (s : Int)), (0, (m : Int))] [] M mc ms _
  refine g_iload_n lk_168_0 rfl ?_
  refine g_iload_n lk_168_1 rfl ?_
  refine g_ishr lk_168_2 ?_
  refine g_iconst lk_168_3 ?_
  refine g_iand lk_168_4 ?_
  refine g_iconst lk_168_5 ?_
  refine g_icmp (t := 13) lk_168_6 rfl (by first | (unfold pm_inI; omega) | exact pm_and_in _ _ | exact pm_shr_in _ _ | exact pm_or_in _ _ | exact pm_xor_in _ _ | exact pm_shl_in _ _ | exact pm_cmp_in _ _ | exact pm_b8_in _ | (unfold pm_inI; split <;> omega)) (by first | (unfold pm_inI; omega) | exact pm_and_in _ _ | exact pm_shr_in _ _ | exact pm_or_in _ _ | exact pm_xor_in _ _ | exact pm_shl_in _ _ | exact pm_cmp_in _ _ | exact pm_b8_in _ | (unfold pm_inI; split <;> omega)) (fun h1 => ?_) (fun h1 => ?_)
  · replace h1 : ¬ (pm_and (pm_shr (s : Int) (m : Int)) 1) = 1 := h1
    refine g_iconst lk_168_13 ?_
    refine g_ireturn lk_168_14 (fun _ => by omega) ?_
    refine ⟨?_, rfl⟩
    rw [pm_bit hs hm] at h1
    split at h1 <;> simp_all
  · replace h1 : ¬ (¬ (pm_and (pm_shr (s : Int) (m : Int)) 1) = 1) := h1
    refine g_iconst lk_168_9 ?_
    refine g_goto (t := 14) lk_168_10 rfl ?_
    refine g_ireturn lk_168_14 (fun _ => by omega) ?_
    refine ⟨?_, rfl⟩
    rw [pm_bit hs hm] at h1
    split at h1 <;> simp_all
theorem c_Mo_cellAt {d mc ms : Nat} {M : pm_M} (lay : Lay M) {T : Tab} (hM : MoAt M T) {r c : Nat} (hr : r < 6) (hc : c < 6) :
    pm_E d 174 [(2, ((116 : Nat) : Int)), (0, (r : Int)), (0, (c : Int))] M mc ms (fun ρ M' => ρ = some (0, (tX T (6 * r + c) : Int)) ∧ M' = M) := by
  show Wp d 174 0 [(2, ((116 : Nat) : Int)), (0, (r : Int)), (0, (c : Int))] [] M mc ms _
  refine g_aload_n lk_174_0 rfl ?_
  refine g_getfield lk_174_1 rfl (lay.on (by decide) rfl) (v := ((117 : Nat) : Int)) (lay.rf rfl) ?_
  refine g_bipush lk_174_4 ?_
  refine g_iload_n lk_174_6 rfl ?_
  refine g_imul lk_174_7 ?_
  refine g_iload_n lk_174_8 rfl ?_
  refine g_iadd lk_174_9 ?_
  refine m_iaload (u := []) (M := M) lk_174_10 (lay.ay (by decide) rfl) (by omega) (j := ((6 * r) + c)) (by omega) (v := pm_ct M 117 ((6 * r) + c)) rfl ?_
  refine g_ireturn lk_174_11 (fun h => absurd h (by decide)) ?_
  refine ⟨?_, rfl⟩
  have h := hM.2.2.2.2 (6 * r + c) (by omega)
  rw [← h]
theorem c_Mo_allRows {d mc ms : Nat} {M : pm_M} (lay : Lay M) {T : Tab} (hT : TabOK T) (hM : MoAt M T) :
    pm_E d 175 [(2, ((116 : Nat) : Int))] M mc ms (fun ρ M' => ρ = some (0, ((2 ^ tR T - 1 : Nat) : Int)) ∧ M' = M) := by
  show Wp d 175 0 [(2, ((116 : Nat) : Int))] [] M mc ms _
  refine g_iconst lk_175_0 ?_
  refine g_aload_n lk_175_1 rfl ?_
  refine m_getfield (u := []) (M := M) lk_175_2 rfl (lay.on (by decide) rfl) (v := (tR T : Int)) hM.1 ?_
  refine g_ishl lk_175_5 ?_
  refine g_iconst lk_175_6 ?_
  refine g_isub lk_175_7 ?_
  refine g_ireturn lk_175_8 (fun h => absurd h (by decide)) ?_
  refine ⟨?_, rfl⟩
  rw [pm_shl_1 (by have := hT.1; omega)]
  have := Nat.one_le_two_pow (n := tR T)
  congr 2
  omega
theorem c_Mo_allColumns {d mc ms : Nat} {M : pm_M} (lay : Lay M) {T : Tab} (hT : TabOK T) (hM : MoAt M T) :
    pm_E d 176 [(2, ((116 : Nat) : Int))] M mc ms (fun ρ M' => ρ = some (0, ((2 ^ tC T - 1 : Nat) : Int)) ∧ M' = M) := by
  show Wp d 176 0 [(2, ((116 : Nat) : Int))] [] M mc ms _
  refine g_iconst lk_176_0 ?_
  refine g_aload_n lk_176_1 rfl ?_
  refine m_getfield (u := []) (M := M) lk_176_2 rfl (lay.on (by decide) rfl) (v := (tC T : Int)) hM.2.1 ?_
  refine g_ishl lk_176_5 ?_
  refine g_iconst lk_176_6 ?_
  refine g_isub lk_176_7 ?_
  refine g_ireturn lk_176_8 (fun h => absurd h (by decide)) ?_
  refine ⟨?_, rfl⟩
  rw [pm_shl_1 (by have := hT.2.1; omega)]
  have := Nat.one_le_two_pow (n := tC T)
  congr 2
  omega
