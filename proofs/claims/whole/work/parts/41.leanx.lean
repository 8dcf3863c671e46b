/-! ===== the class's leaning ===== -/
set_option maxHeartbeats 4000000 in
theorem c_X_leaning {d mc ms : Nat} {M : pm_M} (lay0 : Lay M) {T : Tab} (hT : TabOK T) (hM0 : TbAt M 24 T) {v : Int} (hv : pm_inI v) :
    pm_E (d + 4) 135 [(2, ((1 : Nat) : Int)), (0, v)] M mc ms (fun ρ M' => ρ = some (0, sLean T v) ∧ Lay M' ∧ Fr sP M M') := by
  obtain ⟨Q, hQ⟩ : ∃ Q : pm_Q, Q = (fun ρ M' => ρ = some (0, sLean T v) ∧ Lay M' ∧ Fr sP M M') := ⟨_, rfl⟩
  rw [← hQ]
  have iv := isV_range v
  have fin : ∀ (z : Int) (N : pm_M), z = sLean T v → Lay N → Fr sP M N → Q (some (0, z)) N := fun z N hz h1 h2 => by rw [hQ, hz]; exact ⟨rfl, h1, h2⟩
  have k17 : ¬ isV v = 0 → ∀ N : pm_M, Lay N → Fr sP M N → PaAt N T v.toNat → Wp (d + 4) 135 17 [(2, ((1 : Nat) : Int)), (0, v)] [] N mc ms Q := by
    intro h1v N lay hF hP
    have hM : TbAt N 24 T := hM0.fr hF (by decide) (by decide)
    refine g_aload_n lk_135_17 rfl ?_
    refine g_getfield lk_135_18 rfl (lay.on (by decide) rfl) (v := ((28 : Nat) : Int)) (lay.rf rfl) ?_
    refine g_virtual (p := 28) (Qc := _) lk_135_21 rfl (Nat.le_of_ble_eq_true rfl) rfl rfl (lay.on (by decide) rfl) (Nat.le_of_ble_eq_true rfl) (Nat.le_of_ble_eq_true rfl) (Nat.zero_le _) (Nat.zero_le _) (c_Patches_mostLeaning (d := d + 1) lay hT hM hP) ?_
    rintro _ N1 ⟨rfl, hN1⟩
    rw [hN1]
    show Wp _ 135 24 [(2, ((1 : Nat) : Int)), (0, v)] [(0, (lAll T v.toNat (2 ^ tR T - 1)))] N _ _ _
    refine g_ireturn lk_135_24 (fun h => absurd h (by decide)) ?_
    refine fin _ _ ?_ lay hF
    unfold sLean
    rw [if_neg h1v]
  show Wp (d + 4) 135 0 [(2, ((1 : Nat) : Int)), (0, v)] [] M mc ms Q
  refine g_iload_n lk_135_0 rfl ?_
  refine g_static (Qc := _) lk_135_1 (by decide) rfl (Nat.le_of_ble_eq_true rfl) rfl rfl (Nat.le_of_ble_eq_true rfl) (Nat.le_of_ble_eq_true rfl) (Nat.zero_le _) (Nat.zero_le _) (c_X_isValue (by assumption)) ?_
  rintro _ N1 ⟨rfl, hN1⟩
  rw [hN1]
  show Wp _ 135 4 [(2, ((1 : Nat) : Int)), (0, v)] [(0, (isV v))] M _ _ _
  refine g_if (t := 9) lk_135_4 rfl (by (unfold pm_inI; omega)) (fun h2 => ?_) (fun h2 => ?_)
  · replace h2 : ¬ (isV v) = 0 := h2
    refine g_aload_n lk_135_9 rfl ?_
    refine g_getfield lk_135_10 rfl (lay0.on (by decide) rfl) (v := ((28 : Nat) : Int)) (lay0.rf rfl) ?_
    refine g_iload_n lk_135_13 rfl ?_
    obtain ⟨v1, v2⟩ := isV_1 h2
    obtain ⟨u, rfl⟩ := Int.eq_ofNat_of_zero_le v1
    refine g_virtual (p := 28) (Qc := _) lk_135_14 rfl (Nat.le_of_ble_eq_true rfl) rfl rfl (lay0.on (by decide) rfl) (Nat.le_of_ble_eq_true rfl) (Nat.le_of_ble_eq_true rfl) (Nat.zero_le _) (Nat.zero_le _) (c_Patches_take (d := d) lay0 hT hM0 (v := u) (by omega)) ?_
    rintro _ N' ⟨rfl, f, g, hN, lay', hP⟩
    exact k17 h2 N' lay' (by rw [hN]; exact Fr.mu _ _ rfl) hP
  · replace h2 : ¬ (¬ (isV v) = 0) := h2
    refine g_iconst lk_135_7 ?_
    refine g_ireturn lk_135_8 (fun h => absurd h (by decide)) ?_
    refine fin _ _ ?_ lay0 (Fr.refl _ _)
    unfold sLean
    rw [if_pos (by omega)]
