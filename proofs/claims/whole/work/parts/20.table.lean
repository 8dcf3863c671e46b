/-! ===== Table ===== -/
theorem Lay.tb {M : pm_M} (h : Lay M) {t : Nat} (ht : t = 4 ∨ t = 24) : pm_on M t 8 ∧ pm_ct M t 0 = ((t + 1 : Nat) : Int) ∧ pm_ay M (t + 1) 100 36 := by
  rcases ht with rfl | rfl
  · exact ⟨h.on (by decide) rfl, h.rf rfl, h.ay (by decide) rfl⟩
  · exact ⟨h.on (by decide) rfl, h.rf rfl, h.ay (by decide) rfl⟩
theorem c_Table_at {d mc ms : Nat} {M : pm_M} (lay : Lay M) {t : Nat} (ht : t = 4 ∨ t = 24) {r c : Int} (hi : 0 ≤ r * 6 + c ∧ r * 6 + c < 36) :
    pm_E d 85 [(2, ((t : Nat) : Int)), (0, r), (0, c)] M mc ms (fun ρ M' => ρ = some (0, pm_ct M (t + 1) (r * 6 + c).toNat) ∧ M' = M) := by
  show Wp d 85 0 [(2, ((t : Nat) : Int)), (0, r), (0, c)] [] M mc ms _
  refine g_aload_n lk_85_0 rfl ?_
  refine g_getfield lk_85_1 rfl (lay.tb ht).1 (v := (((t + 1) : Nat) : Int)) (lay.tb ht).2.1 ?_
  refine g_iload_n lk_85_4 rfl ?_
  refine g_bipush lk_85_5 ?_
  refine g_imul lk_85_7 ?_
  refine g_iload_n lk_85_8 rfl ?_
  refine g_iadd lk_85_9 ?_
  refine g_iaload lk_85_10 (lay.tb ht).2.2 (by omega) (v := pm_ct M (t + 1) (((r * 6) + c).toNat)) rfl ?_
  refine g_ireturn lk_85_11 (fun h => absurd h (by decide)) ?_
  exact ⟨rfl, rfl⟩
theorem c_Table_allRows {d mc ms : Nat} {M : pm_M} (lay : Lay M) {t : Nat} (ht : t = 4 ∨ t = 24) :
    pm_E d 86 [(2, ((t : Nat) : Int))] M mc ms (fun ρ M' => ρ = some (0, pm_shl 1 (pm_ct M t 1) - 1) ∧ M' = M) := by
  show Wp d 86 0 [(2, ((t : Nat) : Int))] [] M mc ms _
  refine g_iconst lk_86_0 ?_
  refine g_aload_n lk_86_1 rfl ?_
  refine g_getfield lk_86_2 rfl (lay.tb ht).1 (v := pm_ct M t 1) rfl ?_
  refine g_ishl lk_86_5 ?_
  refine g_iconst lk_86_6 ?_
  refine g_isub lk_86_7 ?_
  refine g_ireturn lk_86_8 (fun h => absurd h (by decide)) ?_
  exact ⟨rfl, rfl⟩
theorem c_Table_isIn {d mc ms : Nat} {M : pm_M} {m s : Int} :
    pm_E d 95 [(0, m), (0, s)] M mc ms (fun ρ M' => ρ = some (0, if pm_and (pm_shr s m) 1 = 0 then 0 else 1) ∧ M' = M) := by
  show Wp d 95 0 [(0, m), (0, s)] [] M mc ms _
  refine g_iload_n lk_95_0 rfl ?_
  refine g_iload_n lk_95_1 rfl ?_
  refine g_ishr lk_95_2 ?_
  refine g_iconst lk_95_3 ?_
  refine g_iand lk_95_4 ?_
  refine g_if (t := 12) lk_95_5 rfl (by exact pm_wI_in _) (fun h1 => ?_) (fun h1 => ?_)
  · replace h1 : (pm_and (pm_shr s m) 1) = 0 := h1
    refine g_iconst lk_95_12 ?_
    refine g_ireturn lk_95_13 (fun _ => by omega) ?_
    exact ⟨by simp [h1], rfl⟩
  · replace h1 : ¬ ((pm_and (pm_shr s m) 1) = 0) := h1
    refine g_iconst lk_95_8 ?_
    refine g_goto (t := 13) lk_95_9 rfl ?_
    refine g_ireturn lk_95_13 (fun _ => by omega) ?_
    exact ⟨by simp [h1], rfl⟩
