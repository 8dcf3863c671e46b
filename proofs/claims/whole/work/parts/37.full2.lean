/-! ===== full: class and model ===== -/
theorem MF.th {S K : List Nat} (h0 : 0 ∈ K) (M : pm_M) : MF S K M (Mu [(116, pm_upd (pm_ct M 116) 0 0)] M) :=
  MF.mu M _ rfl (fun k hk => upd_ne (fun q => hk (by rw [q]; exact h0)))
def sFull (T : Tab) (v k w : Int) : Int := if isV v = 0 then -1 else if k = -1 then ((fL T v.toNat (2 ^ tR T - 1)).length : Int) else if k < 0 ∨ ((fL T v.toNat (2 ^ tR T - 1)).length : Int) ≤ k then -1 else if w = 0 then ((fL T v.toNat (2 ^ tR T - 1)).getD k.toNat 0 : Int) else if w = 1 then ((oC T ((fL T v.toNat (2 ^ tR T - 1)).getD k.toNat 0) v.toNat : Nat) : Int) else -1
set_option maxHeartbeats 4000000 in
theorem c_X_full {d mc ms : Nat} {M : pm_M} (lay0 : Lay M) {T : Tab} (hT : TabOK T) (hM0 : TbAt M 24 T) {v k w : Int} (hv : pm_inI v) (hk : pm_inI k) (hw : pm_inI w) :
    pm_E (d + 4) 128 [(2, ((1 : Nat) : Int)), (0, v), (0, k), (0, w)] M mc ms (fun ρ M' => ρ = some (0, sFull T v k w) ∧ Lay M' ∧ Fr sP M M') := by
  obtain ⟨Q, hQ⟩ : ∃ Q : pm_Q, Q = (fun ρ M' => ρ = some (0, sFull T v k w) ∧ Lay M' ∧ Fr sP M M') := ⟨_, rfl⟩
  rw [← hQ]
  have iv := isV_range v
  have hR := tR_64 hT
  have fin : ∀ (z : Int) (N : pm_M), z = sFull T v k w → Lay N → Fr sP M N → Q (some (0, z)) N := fun z N hz h1 h2 => by rw [hQ, hz]; exact ⟨rfl, h1, h2⟩
  have k24 : ¬ isV v = 0 → ∀ N : pm_M, Lay N → Fr sP M N → FuAt N T v.toNat (2 ^ tR T - 1) → Wp (d + 4) 128 24 [(2, ((1 : Nat) : Int)), (0, v), (0, k), (0, w)] [] N mc ms Q := by
    intro h1v N lay hF hU
    have k1 := fL_len T v.toNat (2 ^ tR T - 1)
    obtain ⟨q6, qk⟩ := hU
    refine g_iload_n lk_128_24 rfl ?_
    refine g_iconst lk_128_25 ?_
    refine g_icmp (t := 37) lk_128_26 rfl (by first | assumption | (unfold pm_inI; omega)) (by first | assumption | (unfold pm_inI; omega)) (fun h1 => ?_) (fun h1 => ?_)
    · replace h1 : ¬ k = (-1) := h1
      refine g_iload_n lk_128_37 rfl ?_
      refine g_if (t := 52) lk_128_38 rfl (by first | assumption | (unfold pm_inI; omega)) (fun h2 => ?_) (fun h2 => ?_)
      · replace h2 : k < 0 := h2
        refine g_iconst lk_128_52 ?_
        refine g_ireturn lk_128_53 (fun h => absurd h (by decide)) ?_
        refine fin _ _ ?_ lay hF
        unfold sFull
        rw [if_neg h1v, if_neg (by omega), if_pos (by omega)]
      · replace h2 : ¬ (k < 0) := h2
        refine g_iload_n lk_128_41 rfl ?_
        refine g_aload_n lk_128_42 rfl ?_
        refine g_getfield lk_128_43 rfl (lay.on (by decide) rfl) (v := ((28 : Nat) : Int)) (lay.rf rfl) ?_
        refine m_getfield (u := []) (M := N) lk_128_46 rfl (lay.on (by decide) rfl) (v := ((fL T v.toNat (2 ^ tR T - 1)).length : Int)) q6 ?_
        refine g_icmp (t := 54) lk_128_49 rfl (by first | assumption | (unfold pm_inI; omega)) (by first | assumption | (unfold pm_inI; omega)) (fun h3 => ?_) (fun h3 => ?_)
        · replace h3 : k < ((fL T v.toNat (2 ^ tR T - 1)).length : Int) := h3
          refine g_iload_n lk_128_54 rfl ?_
          refine g_lsw lk_128_55 (by first | assumption | (unfold pm_inI; omega)) (And.intro (fun h4 => ?_) (fun h4 => (And.intro (fun h5 => ?_) (fun h5 => ?_))))
          · replace h4 : w = 0 := h4
            show Wp _ 128 80 [(2, ((1 : Nat) : Int)), (0, v), (0, k), (0, w)] [] N _ _ _
            refine g_aload_n lk_128_80 rfl ?_
            refine g_getfield lk_128_81 rfl (lay.on (by decide) rfl) (v := ((28 : Nat) : Int)) (lay.rf rfl) ?_
            refine g_getfield lk_128_84 rfl (lay.on (by decide) rfl) (v := ((31 : Nat) : Int)) (lay.rf rfl) ?_
            refine g_iload_n lk_128_87 rfl ?_
            refine m_iaload (u := []) (M := N) lk_128_88 (lay.ay (by decide) rfl) (by omega) (j := k.toNat) (by omega) (v := pm_ct N 31 k.toNat) rfl ?_
            refine g_ireturn lk_128_89 (fun h => absurd h (by decide)) ?_
            refine fin _ _ ?_ lay hF
            unfold sFull
            rw [if_neg h1v, if_neg (by omega), if_neg (by omega), if_pos (by omega)]
            exact (qk k.toNat (by omega)).1
          · replace h5 : w = 1 := h5
            show Wp _ 128 90 [(2, ((1 : Nat) : Int)), (0, v), (0, k), (0, w)] [] N _ _ _
            refine g_aload_n lk_128_90 rfl ?_
            refine g_getfield lk_128_91 rfl (lay.on (by decide) rfl) (v := ((28 : Nat) : Int)) (lay.rf rfl) ?_
            refine g_getfield lk_128_94 rfl (lay.on (by decide) rfl) (v := ((32 : Nat) : Int)) (lay.rf rfl) ?_
            refine g_iload_n lk_128_97 rfl ?_
            refine m_iaload (u := []) (M := N) lk_128_98 (lay.ay (by decide) rfl) (by omega) (j := k.toNat) (by omega) (v := pm_ct N 32 k.toNat) rfl ?_
            refine g_ireturn lk_128_99 (fun h => absurd h (by decide)) ?_
            refine fin _ _ ?_ lay hF
            unfold sFull
            rw [if_neg h1v, if_neg (by omega), if_neg (by omega), if_neg (by omega), if_pos (by omega)]
            exact (qk k.toNat (by omega)).2.1
          · show Wp _ 128 100 [(2, ((1 : Nat) : Int)), (0, v), (0, k), (0, w)] [] N _ _ _
            replace h4 : ¬ w = 0 := h4
            replace h5 : ¬ w = 1 := h5
            refine g_iconst lk_128_100 ?_
            refine g_ireturn lk_128_101 (fun h => absurd h (by decide)) ?_
            refine fin _ _ ?_ lay hF
            unfold sFull
            rw [if_neg h1v, if_neg (by omega), if_neg (by omega), if_neg (by omega), if_neg (by omega)]
        · replace h3 : ¬ (k < ((fL T v.toNat (2 ^ tR T - 1)).length : Int)) := h3
          refine g_iconst lk_128_52 ?_
          refine g_ireturn lk_128_53 (fun h => absurd h (by decide)) ?_
          refine fin _ _ ?_ lay hF
          unfold sFull
          rw [if_neg h1v, if_neg (by omega), if_pos (by omega)]
    · replace h1 : ¬ (¬ k = (-1)) := h1
      refine g_aload_n lk_128_29 rfl ?_
      refine g_getfield lk_128_30 rfl (lay.on (by decide) rfl) (v := ((28 : Nat) : Int)) (lay.rf rfl) ?_
      refine m_getfield (u := []) (M := N) lk_128_33 rfl (lay.on (by decide) rfl) (v := ((fL T v.toNat (2 ^ tR T - 1)).length : Int)) q6 ?_
      refine g_ireturn lk_128_36 (fun h => absurd h (by decide)) ?_
      refine fin _ _ ?_ lay hF
      unfold sFull
      rw [if_neg h1v, if_pos (by omega)]
  have k17 : ¬ isV v = 0 → ∀ N : pm_M, Lay N → Fr sP M N → PaAt N T v.toNat → Wp (d + 4) 128 17 [(2, ((1 : Nat) : Int)), (0, v), (0, k), (0, w)] [] N mc ms Q := by
    intro h1v N lay hF hP
    refine g_aload_n lk_128_17 rfl ?_
    refine g_getfield lk_128_18 rfl (lay.on (by decide) rfl) (v := ((28 : Nat) : Int)) (lay.rf rfl) ?_
    refine g_virtual (p := 28) (Qc := _) lk_128_21 rfl (Nat.le_of_ble_eq_true rfl) rfl rfl (lay.on (by decide) rfl) (Nat.le_of_ble_eq_true rfl) (Nat.le_of_ble_eq_true rfl) (Nat.zero_le _) (Nat.zero_le _) (c_Patches_findFull (d := d + 1) lay hT (hM0.fr hF (by decide) (by decide)) hP) ?_
    rintro _ N' ⟨rfl, lay', hF', hP', hU⟩
    exact k24 h1v N' lay' (hF.trans hF') hU
  show Wp (d + 4) 128 0 [(2, ((1 : Nat) : Int)), (0, v), (0, k), (0, w)] [] M mc ms Q
  refine g_iload_n lk_128_0 rfl ?_
  refine g_static (Qc := _) lk_128_1 (by decide) rfl (Nat.le_of_ble_eq_true rfl) rfl rfl (Nat.le_of_ble_eq_true rfl) (Nat.le_of_ble_eq_true rfl) (Nat.zero_le _) (Nat.zero_le _) (c_X_isValue (by assumption)) ?_
  rintro _ N1 ⟨rfl, hN1⟩
  rw [hN1]
  show Wp _ 128 4 [(2, ((1 : Nat) : Int)), (0, v), (0, k), (0, w)] [(0, (isV v))] M _ _ _
  refine g_if (t := 9) lk_128_4 rfl (by (unfold pm_inI; omega)) (fun h2 => ?_) (fun h2 => ?_)
  · replace h2 : ¬ (isV v) = 0 := h2
    refine g_aload_n lk_128_9 rfl ?_
    refine g_getfield lk_128_10 rfl (lay0.on (by decide) rfl) (v := ((28 : Nat) : Int)) (lay0.rf rfl) ?_
    refine g_iload_n lk_128_13 rfl ?_
    obtain ⟨v1, v2⟩ := isV_1 h2
    obtain ⟨u, rfl⟩ := Int.eq_ofNat_of_zero_le v1
    refine g_virtual (p := 28) (Qc := _) lk_128_14 rfl (Nat.le_of_ble_eq_true rfl) rfl rfl (lay0.on (by decide) rfl) (Nat.le_of_ble_eq_true rfl) (Nat.le_of_ble_eq_true rfl) (Nat.zero_le _) (Nat.zero_le _) (c_Patches_take (d := d) lay0 hT hM0 (v := u) (by omega)) ?_
    rintro _ N' ⟨rfl, f, g, hN, lay', hP⟩
    exact k17 h2 N' lay' (by rw [hN]; exact Fr.mu _ _ rfl) hP
  · replace h2 : ¬ (¬ (isV v) = 0) := h2
    refine g_iconst lk_128_7 ?_
    refine g_ireturn lk_128_8 (fun h => absurd h (by decide)) ?_
    refine fin _ _ ?_ lay0 (Fr.refl _ _)
    unfold sFull
    rw [if_pos (by omega)]
set_option maxHeartbeats 4000000 in
theorem c_Mo_full {d mc ms : Nat} {M : pm_M} (lay0 : Lay M) {T : Tab} (hT : TabOK T) (hM0 : MoAt M T) {v k w : Int} (hv : pm_inI v) (hk : pm_inI k) (hw : pm_inI w) :
    pm_E (d + 4) 211 [(2, ((116 : Nat) : Int)), (0, v), (0, k), (0, w)] M mc ms (fun ρ M' => ρ = some (0, sFull T v k w) ∧ Lay M' ∧ MF [134, 135] [0, 38] M M') := by
  obtain ⟨Q, hQ⟩ : ∃ Q : pm_Q, Q = (fun ρ M' => ρ = some (0, sFull T v k w) ∧ Lay M' ∧ MF [134, 135] [0, 38] M M') := ⟨_, rfl⟩
  rw [← hQ]
  have iv := isV_range v
  have hR := tR_64 hT
  have fin : ∀ (z : Int) (N : pm_M), z = sFull T v k w → Lay N → MF [134, 135] [0, 38] M N → Q (some (0, z)) N := fun z N hz h1 h2 => by rw [hQ, hz]; exact ⟨rfl, h1, h2⟩
  have k19 : ¬ isV v = 0 → ∀ N : pm_M, Lay N → MF [134, 135] [0, 38] M N → FmAt N T v.toNat (2 ^ tR T - 1) → Wp (d + 4) 211 19 [(2, ((116 : Nat) : Int)), (0, v), (0, k), (0, w)] [] N mc ms Q := by
    intro h1v N lay hF hU
    have k1 := fL_len T v.toNat (2 ^ tR T - 1)
    obtain ⟨q6, qk⟩ := hU
    refine g_iload_n lk_211_19 rfl ?_
    refine g_iconst lk_211_20 ?_
    refine g_icmp (t := 29) lk_211_21 rfl (by first | assumption | (unfold pm_inI; omega) | (unfold pm_inI; split <;> omega)) (by first | assumption | (unfold pm_inI; omega) | (unfold pm_inI; split <;> omega)) (fun h1 => ?_) (fun h1 => ?_)
    · replace h1 : ¬ k = (-1) := h1
      refine g_iload_n lk_211_29 rfl ?_
      refine g_iconst lk_211_30 ?_
      refine g_aload_n lk_211_31 rfl ?_
      refine m_getfield (u := []) (M := N) lk_211_32 rfl (lay.on (by decide) rfl) (v := ((fL T v.toNat (2 ^ tR T - 1)).length : Int)) q6 ?_
      refine g_iconst lk_211_35 ?_
      refine g_isub lk_211_36 ?_
      refine g_static (Qc := _) lk_211_37 (by decide) rfl (Nat.le_of_ble_eq_true rfl) rfl rfl (Nat.le_of_ble_eq_true rfl) (Nat.le_of_ble_eq_true rfl) (Nat.zero_le _) (Nat.zero_le _) (c_Mo_in (by assumption) (by unfold pm_inI; omega) (by unfold pm_inI; omega)) ?_
      rintro _ N2 ⟨rfl, hN2⟩
      rw [hN2]
      show Wp _ 211 40 [(2, ((116 : Nat) : Int)), (0, v), (0, k), (0, w)] [(0, (if 0 ≤ k ∧ k ≤ (((fL T v.toNat (2 ^ tR T - 1)).length : Int) - 1) then (1 : Int) else 0))] N _ _ _
      refine g_if (t := 47) lk_211_40 rfl (by first | assumption | (unfold pm_inI; omega) | (unfold pm_inI; split <;> omega)) (fun h3 => ?_) (fun h3 => ?_)
      · replace h3 : ¬ (if 0 ≤ k ∧ k ≤ (((fL T v.toNat (2 ^ tR T - 1)).length : Int) - 1) then (1 : Int) else 0) = 0 := h3
        refine g_iload_n lk_211_47 rfl ?_
        refine g_if (t := 60) lk_211_48 rfl (by first | assumption | (unfold pm_inI; omega) | (unfold pm_inI; split <;> omega)) (fun h4 => ?_) (fun h4 => ?_)
        · replace h4 : ¬ w = 0 := h4
          refine g_iload_n lk_211_60 rfl ?_
          refine g_iconst lk_211_61 ?_
          refine g_icmp (t := 74) lk_211_62 rfl (by first | assumption | (unfold pm_inI; omega) | (unfold pm_inI; split <;> omega)) (by first | assumption | (unfold pm_inI; omega) | (unfold pm_inI; split <;> omega)) (fun h5 => ?_) (fun h5 => ?_)
          · replace h5 : ¬ w = 1 := h5
            refine g_iconst lk_211_74 ?_
            refine g_ireturn lk_211_75 (fun h => absurd h (by decide)) ?_
            refine fin _ _ ?_ lay hF
            unfold sFull
            split at h3 <;> first | omega | rw [if_neg h1v, if_neg (by omega), if_neg (by omega), if_neg (by omega), if_neg (by omega)]
          · replace h5 : ¬ (¬ w = 1) := h5
            refine g_aload_n lk_211_65 rfl ?_
            refine g_getfield lk_211_66 rfl (lay.on (by decide) rfl) (v := ((135 : Nat) : Int)) (lay.rf rfl) ?_
            refine g_iload_n lk_211_69 rfl ?_
            refine m_iaload (u := []) (M := N) lk_211_70 (lay.ay (by decide) rfl) (by (split at h3 <;> omega)) (j := k.toNat) (by omega) (v := pm_ct N 135 k.toNat) rfl ?_
            refine g_goto (t := 75) lk_211_71 rfl ?_
            refine g_ireturn lk_211_75 (fun h => absurd h (by decide)) ?_
            refine fin _ _ ?_ lay hF
            unfold sFull
            split at h3 <;> first | omega | (rw [if_neg h1v, if_neg (by omega), if_neg (by omega), if_neg (by omega), if_pos (by omega)]; exact (qk k.toNat (by omega)).2)
        · replace h4 : ¬ (¬ w = 0) := h4
          refine g_aload_n lk_211_51 rfl ?_
          refine g_getfield lk_211_52 rfl (lay.on (by decide) rfl) (v := ((134 : Nat) : Int)) (lay.rf rfl) ?_
          refine g_iload_n lk_211_55 rfl ?_
          refine m_iaload (u := []) (M := N) lk_211_56 (lay.ay (by decide) rfl) (by (split at h3 <;> omega)) (j := k.toNat) (by omega) (v := pm_ct N 134 k.toNat) rfl ?_
          refine g_goto (t := 75) lk_211_57 rfl ?_
          refine g_ireturn lk_211_75 (fun h => absurd h (by decide)) ?_
          refine fin _ _ ?_ lay hF
          unfold sFull
          split at h3 <;> first | omega | (rw [if_neg h1v, if_neg (by omega), if_neg (by omega), if_pos (by omega)]; exact (qk k.toNat (by omega)).1)
      · replace h3 : ¬ (¬ (if 0 ≤ k ∧ k ≤ (((fL T v.toNat (2 ^ tR T - 1)).length : Int) - 1) then (1 : Int) else 0) = 0) := h3
        refine g_iconst lk_211_43 ?_
        refine g_goto (t := 75) lk_211_44 rfl ?_
        refine g_ireturn lk_211_75 (fun h => absurd h (by decide)) ?_
        refine fin _ _ ?_ lay hF
        unfold sFull
        split at h3 <;> first | omega | rw [if_neg h1v, if_neg (by omega), if_pos (by omega)]
    · replace h1 : ¬ (¬ k = (-1)) := h1
      refine g_aload_n lk_211_24 rfl ?_
      refine m_getfield (u := []) (M := N) lk_211_25 rfl (lay.on (by decide) rfl) (v := ((fL T v.toNat (2 ^ tR T - 1)).length : Int)) q6 ?_
      refine g_ireturn lk_211_28 (fun h => absurd h (by decide)) ?_
      refine fin _ _ ?_ lay hF
      unfold sFull
      rw [if_neg h1v, if_pos (by omega)]
  show Wp (d + 4) 211 0 [(2, ((116 : Nat) : Int)), (0, v), (0, k), (0, w)] [] M mc ms Q
  refine g_aload_n lk_211_0 rfl ?_
  refine g_iconst lk_211_1 ?_
  have lay1 : Lay (Mu [(116, pm_upd (pm_ct M 116) 0 0)] M) := lay0.muF (l := []) (a := 116) (k := 0) (z := 0) rfl rfl
  refine m_putfield (u := []) (u' := [(116, pm_upd (pm_ct M 116) 0 0)]) (M := M) lk_211_2 rfl (lay0.on (by decide) rfl) (fun h => absurd h (by decide)) rfl ?_
  refine g_iload_n lk_211_5 rfl ?_
  refine g_static (Qc := _) lk_211_6 (by decide) rfl (Nat.le_of_ble_eq_true rfl) rfl rfl (Nat.le_of_ble_eq_true rfl) (Nat.le_of_ble_eq_true rfl) (Nat.zero_le _) (Nat.zero_le _) (c_Mo_isValue (by assumption)) ?_
  rintro _ N2 ⟨rfl, hN2⟩
  rw [hN2]
  show Wp _ 211 9 [(2, ((116 : Nat) : Int)), (0, v), (0, k), (0, w)] [(0, (isV v))] (Mu [(116, pm_upd (pm_ct M 116) 0 0)] M) _ _ _
  refine g_if (t := 14) lk_211_9 rfl (by (unfold pm_inI; omega)) (fun h3 => ?_) (fun h3 => ?_)
  · replace h3 : ¬ (isV v) = 0 := h3
    refine g_aload_n lk_211_14 rfl ?_
    refine g_iload_n lk_211_15 rfl ?_
    obtain ⟨v1, v2⟩ := isV_1 h3
    obtain ⟨u, rfl⟩ := Int.eq_ofNat_of_zero_le v1
    refine g_virtual (p := 116) (Qc := _) lk_211_16 rfl (Nat.le_of_ble_eq_true rfl) rfl rfl (lay1.on (by decide) rfl) (Nat.le_of_ble_eq_true rfl) (Nat.le_of_ble_eq_true rfl) (Nat.zero_le _) (Nat.zero_le _) (c_Mo_layFull (d := d) lay1 hT (show MoAt (Mu [(116, pm_upd (pm_ct M 116) 0 0)] M) T from hM0) (v := u) (by omega)) ?_
    rintro _ N' ⟨rfl, lay', hF', hU⟩
    exact k19 h3 N' lay' (MF.trans (MF.th (by decide) M) (hF'.mono (fun _ q => q) (fun a q => by rw [List.mem_singleton] at q; rw [q]; decide))) hU
  · replace h3 : ¬ (¬ (isV v) = 0) := h3
    refine g_iconst lk_211_12 ?_
    refine g_ireturn lk_211_13 (fun h => absurd h (by decide)) ?_
    refine fin _ _ ?_ lay1 (MF.th (by decide) M)
    unfold sFull
    rw [if_pos (by omega)]
