/-! ===== acts: the model ===== -/
def acC (z : Int) : Int := if z = -1 then -1 else ((z.toNat / 11 : Nat) : Int)
def acW (z : Int) : Int := if z = -1 then 0 else ((z.toNat % 11 : Nat) : Int)
def AcM (M : pm_M) (n : Nat) (a : Nat → Int) : Prop := n ≤ 12 ∧ pm_ct M 116 70 = (n : Int) ∧ ∀ i, i < n → pm_ct M 155 i = acC (a i) ∧ pm_ct M 156 i = acW (a i)
set_option maxHeartbeats 8000000 in
theorem c_Mo_keep {d mc ms : Nat} {M : pm_M} (lay0 : Lay M) {n : Nat} {a : Nat → Int} (hA : AcM M n a) {z z1 z2 : Int} (hz1 : z1 = acC z) (hz2 : z2 = acW z) :
    pm_E d 260 [(2, ((116 : Nat) : Int)), (0, z1), (0, z2)] M mc ms (fun ρ M' => ρ = none ∧ Lay M' ∧ MF [155, 156] [70] M M' ∧ AcM M' (kN n) (kA n a z)) := by
  obtain ⟨n12, h12, ha⟩ := hA
  show Wp d 260 0 [(2, ((116 : Nat) : Int)), (0, z1), (0, z2), (9, 0)] [] M mc ms _
  by_cases e : n = 12
  · rw [e] at h12 ha
    have h12' : pm_ct M 116 70 = 12 := h12
    have r0 := ha 0 (by omega)
    have r1 := ha 1 (by omega)
    have r2 := ha 2 (by omega)
    have r3 := ha 3 (by omega)
    have r4 := ha 4 (by omega)
    have r5 := ha 5 (by omega)
    have r6 := ha 6 (by omega)
    have r7 := ha 7 (by omega)
    have r8 := ha 8 (by omega)
    have r9 := ha 9 (by omega)
    have r10 := ha 10 (by omega)
    have r11 := ha 11 (by omega)
    refine g_aload_n lk_260_0 rfl ?_
    refine m_getfield (u := []) (M := M) lk_260_1 rfl (lay0.on (by decide) rfl) (v := 12) h12' ?_
    refine g_bipush lk_260_4 ?_
    refine g_icmp (t := 61) lk_260_6 rfl (by first | (unfold pm_inI; omega) | exact pm_and_in _ _ | exact pm_shr_in _ _ | exact pm_or_in _ _ | exact pm_xor_in _ _ | exact pm_shl_in _ _ | exact pm_cmp_in _ _ | exact pm_b8_in _ | (unfold pm_inI; split <;> omega)) (by first | (unfold pm_inI; omega) | exact pm_and_in _ _ | exact pm_shr_in _ _ | exact pm_or_in _ _ | exact pm_xor_in _ _ | exact pm_shl_in _ _ | exact pm_cmp_in _ _ | exact pm_b8_in _ | (unfold pm_inI; split <;> omega)) (fun h => absurd h (show ¬ (¬ (12 : Int) = (12 : Int)) by omega)) (fun _ => ?_)
    refine g_iconst lk_260_9 ?_
    refine g_istore_n (ls' := [(2, ((116 : Nat) : Int)), (0, z1), (0, z2), (0, 1)]) lk_260_10 rfl rfl ?_
    refine g_iload_n lk_260_11 rfl ?_
    refine g_bipush lk_260_12 ?_
    refine g_icmp (t := 51) lk_260_14 rfl (by first | (unfold pm_inI; omega) | exact pm_and_in _ _ | exact pm_shr_in _ _ | exact pm_or_in _ _ | exact pm_xor_in _ _ | exact pm_shl_in _ _ | exact pm_cmp_in _ _ | exact pm_b8_in _ | (unfold pm_inI; split <;> omega)) (by first | (unfold pm_inI; omega) | exact pm_and_in _ _ | exact pm_shr_in _ _ | exact pm_or_in _ _ | exact pm_xor_in _ _ | exact pm_shl_in _ _ | exact pm_cmp_in _ _ | exact pm_b8_in _ | (unfold pm_inI; split <;> omega)) (fun h => absurd h (show ¬ ((12 : Int) ≤ (1 : Int)) by omega)) (fun _ => ?_)
    refine g_aload_n lk_260_17 rfl ?_
    refine g_getfield lk_260_18 rfl (lay0.on (by decide) rfl) (v := ((155 : Nat) : Int)) (lay0.rf rfl) ?_
    refine g_iload_n lk_260_21 rfl ?_
    refine g_iconst lk_260_22 ?_
    refine g_isub lk_260_23 ?_
    refine g_top (z := (1 - 1)) (z' := 0) (by omega) ?_
    refine g_aload_n lk_260_24 rfl ?_
    refine g_getfield lk_260_25 rfl (lay0.on (by decide) rfl) (v := ((155 : Nat) : Int)) (lay0.rf rfl) ?_
    refine g_iload_n lk_260_28 rfl ?_
    refine m_iaload (u := []) (M := M) lk_260_29 (lay0.ay (by decide) rfl) (by omega) (j := 1) (by omega) (v := pm_ct M 155 1) rfl ?_
    have lay1 : Lay (Mu [(155, pm_upd (pm_ct M 155) 0 (pm_ct M 155 1))] M) := lay0.muA (l := []) (a := 155) (f := pm_upd (pm_ct M 155) 0 (pm_ct M 155 1)) rfl rfl
    refine m_iastore (u := []) (u' := [(155, pm_upd (pm_ct M 155) 0 (pm_ct M 155 1))]) (M := M) lk_260_30 (lay0.ay (by decide) rfl) (by omega) (j := 0) (by omega) rfl ?_
    refine g_aload_n lk_260_31 rfl ?_
    refine g_getfield lk_260_32 rfl (lay1.on (by decide) rfl) (v := ((156 : Nat) : Int)) (lay1.rf rfl) ?_
    refine g_iload_n lk_260_35 rfl ?_
    refine g_iconst lk_260_36 ?_
    refine g_isub lk_260_37 ?_
    refine g_top (z := (1 - 1)) (z' := 0) (by omega) ?_
    refine g_aload_n lk_260_38 rfl ?_
    refine g_getfield lk_260_39 rfl (lay1.on (by decide) rfl) (v := ((156 : Nat) : Int)) (lay1.rf rfl) ?_
    refine g_iload_n lk_260_42 rfl ?_
    refine m_iaload (u := [(155, pm_upd (pm_ct M 155) 0 (pm_ct M 155 1))]) (M := M) lk_260_43 (lay1.ay (by decide) rfl) (by omega) (j := 1) (by omega) (v := pm_ct M 156 1) rfl ?_
    have lay2 : Lay (Mu [(155, pm_upd (pm_ct M 155) 0 (pm_ct M 155 1)), (156, pm_upd (pm_ct M 156) 0 (pm_ct M 156 1))] M) := lay1.muA (l := [(155, pm_upd (pm_ct M 155) 0 (pm_ct M 155 1))]) (a := 156) (f := pm_upd (pm_ct M 156) 0 (pm_ct M 156 1)) rfl rfl
    refine m_iastore (u := [(155, pm_upd (pm_ct M 155) 0 (pm_ct M 155 1))]) (u' := [(155, pm_upd (pm_ct M 155) 0 (pm_ct M 155 1)), (156, pm_upd (pm_ct M 156) 0 (pm_ct M 156 1))]) (M := M) lk_260_44 (lay1.ay (by decide) rfl) (by omega) (j := 0) (by omega) rfl ?_
    refine g_iinc (ls' := [(2, ((116 : Nat) : Int)), (0, z1), (0, z2), (0, 2)]) lk_260_45 rfl rfl rfl ?_
    refine g_goto (t := 11) lk_260_48 rfl ?_
    refine g_iload_n lk_260_11 rfl ?_
    refine g_bipush lk_260_12 ?_
    refine g_icmp (t := 51) lk_260_14 rfl (by first | (unfold pm_inI; omega) | exact pm_and_in _ _ | exact pm_shr_in _ _ | exact pm_or_in _ _ | exact pm_xor_in _ _ | exact pm_shl_in _ _ | exact pm_cmp_in _ _ | exact pm_b8_in _ | (unfold pm_inI; split <;> omega)) (by first | (unfold pm_inI; omega) | exact pm_and_in _ _ | exact pm_shr_in _ _ | exact pm_or_in _ _ | exact pm_xor_in _ _ | exact pm_shl_in _ _ | exact pm_cmp_in _ _ | exact pm_b8_in _ | (unfold pm_inI; split <;> omega)) (fun h => absurd h (show ¬ ((12 : Int) ≤ (2 : Int)) by omega)) (fun _ => ?_)
    refine g_aload_n lk_260_17 rfl ?_
    refine g_getfield lk_260_18 rfl (lay2.on (by decide) rfl) (v := ((155 : Nat) : Int)) (lay2.rf rfl) ?_
    refine g_iload_n lk_260_21 rfl ?_
    refine g_iconst lk_260_22 ?_
    refine g_isub lk_260_23 ?_
    refine g_top (z := (2 - 1)) (z' := 1) (by omega) ?_
    refine g_aload_n lk_260_24 rfl ?_
    refine g_getfield lk_260_25 rfl (lay2.on (by decide) rfl) (v := ((155 : Nat) : Int)) (lay2.rf rfl) ?_
    refine g_iload_n lk_260_28 rfl ?_
    refine m_iaload (u := [(155, pm_upd (pm_ct M 155) 0 (pm_ct M 155 1)), (156, pm_upd (pm_ct M 156) 0 (pm_ct M 156 1))]) (M := M) lk_260_29 (lay2.ay (by decide) rfl) (by omega) (j := 2) (by omega) (v := pm_ct M 155 2) rfl ?_
    have lay3 : Lay (Mu [(155, pm_upd (pm_upd (pm_ct M 155) 0 (pm_ct M 155 1)) 1 (pm_ct M 155 2)), (156, pm_upd (pm_ct M 156) 0 (pm_ct M 156 1))] M) := lay2.muA (l := [(155, pm_upd (pm_ct M 155) 0 (pm_ct M 155 1)), (156, pm_upd (pm_ct M 156) 0 (pm_ct M 156 1))]) (a := 155) (f := pm_upd (pm_upd (pm_ct M 155) 0 (pm_ct M 155 1)) 1 (pm_ct M 155 2)) rfl rfl
    refine m_iastore (u := [(155, pm_upd (pm_ct M 155) 0 (pm_ct M 155 1)), (156, pm_upd (pm_ct M 156) 0 (pm_ct M 156 1))]) (u' := [(155, pm_upd (pm_upd (pm_ct M 155) 0 (pm_ct M 155 1)) 1 (pm_ct M 155 2)), (156, pm_upd (pm_ct M 156) 0 (pm_ct M 156 1))]) (M := M) lk_260_30 (lay2.ay (by decide) rfl) (by omega) (j := 1) (by omega) rfl ?_
    refine g_aload_n lk_260_31 rfl ?_
    refine g_getfield lk_260_32 rfl (lay3.on (by decide) rfl) (v := ((156 : Nat) : Int)) (lay3.rf rfl) ?_
    refine g_iload_n lk_260_35 rfl ?_
    refine g_iconst lk_260_36 ?_
    refine g_isub lk_260_37 ?_
    refine g_top (z := (2 - 1)) (z' := 1) (by omega) ?_
    refine g_aload_n lk_260_38 rfl ?_
    refine g_getfield lk_260_39 rfl (lay3.on (by decide) rfl) (v := ((156 : Nat) : Int)) (lay3.rf rfl) ?_
    refine g_iload_n lk_260_42 rfl ?_
    refine m_iaload (u := [(155, pm_upd (pm_upd (pm_ct M 155) 0 (pm_ct M 155 1)) 1 (pm_ct M 155 2)), (156, pm_upd (pm_ct M 156) 0 (pm_ct M 156 1))]) (M := M) lk_260_43 (lay3.ay (by decide) rfl) (by omega) (j := 2) (by omega) (v := pm_ct M 156 2) rfl ?_
    have lay4 : Lay (Mu [(155, pm_upd (pm_upd (pm_ct M 155) 0 (pm_ct M 155 1)) 1 (pm_ct M 155 2)), (156, pm_upd (pm_upd (pm_ct M 156) 0 (pm_ct M 156 1)) 1 (pm_ct M 156 2))] M) := lay3.muA (l := [(155, pm_upd (pm_upd (pm_ct M 155) 0 (pm_ct M 155 1)) 1 (pm_ct M 155 2)), (156, pm_upd (pm_ct M 156) 0 (pm_ct M 156 1))]) (a := 156) (f := pm_upd (pm_upd (pm_ct M 156) 0 (pm_ct M 156 1)) 1 (pm_ct M 156 2)) rfl rfl
    refine m_iastore (u := [(155, pm_upd (pm_upd (pm_ct M 155) 0 (pm_ct M 155 1)) 1 (pm_ct M 155 2)), (156, pm_upd (pm_ct M 156) 0 (pm_ct M 156 1))]) (u' := [(155, pm_upd (pm_upd (pm_ct M 155) 0 (pm_ct M 155 1)) 1 (pm_ct M 155 2)), (156, pm_upd (pm_upd (pm_ct M 156) 0 (pm_ct M 156 1)) 1 (pm_ct M 156 2))]) (M := M) lk_260_44 (lay3.ay (by decide) rfl) (by omega) (j := 1) (by omega) rfl ?_
    refine g_iinc (ls' := [(2, ((116 : Nat) : Int)), (0, z1), (0, z2), (0, 3)]) lk_260_45 rfl rfl rfl ?_
    refine g_goto (t := 11) lk_260_48 rfl ?_
    refine g_iload_n lk_260_11 rfl ?_
    refine g_bipush lk_260_12 ?_
    refine g_icmp (t := 51) lk_260_14 rfl (by first | (unfold pm_inI; omega) | exact pm_and_in _ _ | exact pm_shr_in _ _ | exact pm_or_in _ _ | exact pm_xor_in _ _ | exact pm_shl_in _ _ | exact pm_cmp_in _ _ | exact pm_b8_in _ | (unfold pm_inI; split <;> omega)) (by first | (unfold pm_inI; omega) | exact pm_and_in _ _ | exact pm_shr_in _ _ | exact pm_or_in _ _ | exact pm_xor_in _ _ | exact pm_shl_in _ _ | exact pm_cmp_in _ _ | exact pm_b8_in _ | (unfold pm_inI; split <;> omega)) (fun h => absurd h (show ¬ ((12 : Int) ≤ (3 : Int)) by omega)) (fun _ => ?_)
    refine g_aload_n lk_260_17 rfl ?_
    refine g_getfield lk_260_18 rfl (lay4.on (by decide) rfl) (v := ((155 : Nat) : Int)) (lay4.rf rfl) ?_
    refine g_iload_n lk_260_21 rfl ?_
    refine g_iconst lk_260_22 ?_
    refine g_isub lk_260_23 ?_
    refine g_top (z := (3 - 1)) (z' := 2) (by omega) ?_
    refine g_aload_n lk_260_24 rfl ?_
    refine g_getfield lk_260_25 rfl (lay4.on (by decide) rfl) (v := ((155 : Nat) : Int)) (lay4.rf rfl) ?_
    refine g_iload_n lk_260_28 rfl ?_
    refine m_iaload (u := [(155, pm_upd (pm_upd (pm_ct M 155) 0 (pm_ct M 155 1)) 1 (pm_ct M 155 2)), (156, pm_upd (pm_upd (pm_ct M 156) 0 (pm_ct M 156 1)) 1 (pm_ct M 156 2))]) (M := M) lk_260_29 (lay4.ay (by decide) rfl) (by omega) (j := 3) (by omega) (v := pm_ct M 155 3) rfl ?_
    have lay5 : Lay (Mu [(155, pm_upd (pm_upd (pm_upd (pm_ct M 155) 0 (pm_ct M 155 1)) 1 (pm_ct M 155 2)) 2 (pm_ct M 155 3)), (156, pm_upd (pm_upd (pm_ct M 156) 0 (pm_ct M 156 1)) 1 (pm_ct M 156 2))] M) := lay4.muA (l := [(155, pm_upd (pm_upd (pm_ct M 155) 0 (pm_ct M 155 1)) 1 (pm_ct M 155 2)), (156, pm_upd (pm_upd (pm_ct M 156) 0 (pm_ct M 156 1)) 1 (pm_ct M 156 2))]) (a := 155) (f := pm_upd (pm_upd (pm_upd (pm_ct M 155) 0 (pm_ct M 155 1)) 1 (pm_ct M 155 2)) 2 (pm_ct M 155 3)) rfl rfl
    refine m_iastore (u := [(155, pm_upd (pm_upd (pm_ct M 155) 0 (pm_ct M 155 1)) 1 (pm_ct M 155 2)), (156, pm_upd (pm_upd (pm_ct M 156) 0 (pm_ct M 156 1)) 1 (pm_ct M 156 2))]) (u' := [(155, pm_upd (pm_upd (pm_upd (pm_ct M 155) 0 (pm_ct M 155 1)) 1 (pm_ct M 155 2)) 2 (pm_ct M 155 3)), (156, pm_upd (pm_upd (pm_ct M 156) 0 (pm_ct M 156 1)) 1 (pm_ct M 156 2))]) (M := M) lk_260_30 (lay4.ay (by decide) rfl) (by omega) (j := 2) (by omega) rfl ?_
    refine g_aload_n lk_260_31 rfl ?_
    refine g_getfield lk_260_32 rfl (lay5.on (by decide) rfl) (v := ((156 : Nat) : Int)) (lay5.rf rfl) ?_
    refine g_iload_n lk_260_35 rfl ?_
    refine g_iconst lk_260_36 ?_
    refine g_isub lk_260_37 ?_
    refine g_top (z := (3 - 1)) (z' := 2) (by omega) ?_
    refine g_aload_n lk_260_38 rfl ?_
    refine g_getfield lk_260_39 rfl (lay5.on (by decide) rfl) (v := ((156 : Nat) : Int)) (lay5.rf rfl) ?_
    refine g_iload_n lk_260_42 rfl ?_
    refine m_iaload (u := [(155, pm_upd (pm_upd (pm_upd (pm_ct M 155) 0 (pm_ct M 155 1)) 1 (pm_ct M 155 2)) 2 (pm_ct M 155 3)), (156, pm_upd (pm_upd (pm_ct M 156) 0 (pm_ct M 156 1)) 1 (pm_ct M 156 2))]) (M := M) lk_260_43 (lay5.ay (by decide) rfl) (by omega) (j := 3) (by omega) (v := pm_ct M 156 3) rfl ?_
    have lay6 : Lay (Mu [(155, pm_upd (pm_upd (pm_upd (pm_ct M 155) 0 (pm_ct M 155 1)) 1 (pm_ct M 155 2)) 2 (pm_ct M 155 3)), (156, pm_upd (pm_upd (pm_upd (pm_ct M 156) 0 (pm_ct M 156 1)) 1 (pm_ct M 156 2)) 2 (pm_ct M 156 3))] M) := lay5.muA (l := [(155, pm_upd (pm_upd (pm_upd (pm_ct M 155) 0 (pm_ct M 155 1)) 1 (pm_ct M 155 2)) 2 (pm_ct M 155 3)), (156, pm_upd (pm_upd (pm_ct M 156) 0 (pm_ct M 156 1)) 1 (pm_ct M 156 2))]) (a := 156) (f := pm_upd (pm_upd (pm_upd (pm_ct M 156) 0 (pm_ct M 156 1)) 1 (pm_ct M 156 2)) 2 (pm_ct M 156 3)) rfl rfl
    refine m_iastore (u := [(155, pm_upd (pm_upd (pm_upd (pm_ct M 155) 0 (pm_ct M 155 1)) 1 (pm_ct M 155 2)) 2 (pm_ct M 155 3)), (156, pm_upd (pm_upd (pm_ct M 156) 0 (pm_ct M 156 1)) 1 (pm_ct M 156 2))]) (u' := [(155, pm_upd (pm_upd (pm_upd (pm_ct M 155) 0 (pm_ct M 155 1)) 1 (pm_ct M 155 2)) 2 (pm_ct M 155 3)), (156, pm_upd (pm_upd (pm_upd (pm_ct M 156) 0 (pm_ct M 156 1)) 1 (pm_ct M 156 2)) 2 (pm_ct M 156 3))]) (M := M) lk_260_44 (lay5.ay (by decide) rfl) (by omega) (j := 2) (by omega) rfl ?_
    refine g_iinc (ls' := [(2, ((116 : Nat) : Int)), (0, z1), (0, z2), (0, 4)]) lk_260_45 rfl rfl rfl ?_
    refine g_goto (t := 11) lk_260_48 rfl ?_
    refine g_iload_n lk_260_11 rfl ?_
    refine g_bipush lk_260_12 ?_
    refine g_icmp (t := 51) lk_260_14 rfl (by first | (unfold pm_inI; omega) | exact pm_and_in _ _ | exact pm_shr_in _ _ | exact pm_or_in _ _ | exact pm_xor_in _ _ | exact pm_shl_in _ _ | exact pm_cmp_in _ _ | exact pm_b8_in _ | (unfold pm_inI; split <;> omega)) (by first | (unfold pm_inI; omega) | exact pm_and_in _ _ | exact pm_shr_in _ _ | exact pm_or_in _ _ | exact pm_xor_in _ _ | exact pm_shl_in _ _ | exact pm_cmp_in _ _ | exact pm_b8_in _ | (unfold pm_inI; split <;> omega)) (fun h => absurd h (show ¬ ((12 : Int) ≤ (4 : Int)) by omega)) (fun _ => ?_)
    refine g_aload_n lk_260_17 rfl ?_
    refine g_getfield lk_260_18 rfl (lay6.on (by decide) rfl) (v := ((155 : Nat) : Int)) (lay6.rf rfl) ?_
    refine g_iload_n lk_260_21 rfl ?_
    refine g_iconst lk_260_22 ?_
    refine g_isub lk_260_23 ?_
    refine g_top (z := (4 - 1)) (z' := 3) (by omega) ?_
    refine g_aload_n lk_260_24 rfl ?_
    refine g_getfield lk_260_25 rfl (lay6.on (by decide) rfl) (v := ((155 : Nat) : Int)) (lay6.rf rfl) ?_
    refine g_iload_n lk_260_28 rfl ?_
    refine m_iaload (u := [(155, pm_upd (pm_upd (pm_upd (pm_ct M 155) 0 (pm_ct M 155 1)) 1 (pm_ct M 155 2)) 2 (pm_ct M 155 3)), (156, pm_upd (pm_upd (pm_upd (pm_ct M 156) 0 (pm_ct M 156 1)) 1 (pm_ct M 156 2)) 2 (pm_ct M 156 3))]) (M := M) lk_260_29 (lay6.ay (by decide) rfl) (by omega) (j := 4) (by omega) (v := pm_ct M 155 4) rfl ?_
    have lay7 : Lay (Mu [(155, pm_upd (pm_upd (pm_upd (pm_upd (pm_ct M 155) 0 (pm_ct M 155 1)) 1 (pm_ct M 155 2)) 2 (pm_ct M 155 3)) 3 (pm_ct M 155 4)), (156, pm_upd (pm_upd (pm_upd (pm_ct M 156) 0 (pm_ct M 156 1)) 1 (pm_ct M 156 2)) 2 (pm_ct M 156 3))] M) := lay6.muA (l := [(155, pm_upd (pm_upd (pm_upd (pm_ct M 155) 0 (pm_ct M 155 1)) 1 (pm_ct M 155 2)) 2 (pm_ct M 155 3)), (156, pm_upd (pm_upd (pm_upd (pm_ct M 156) 0 (pm_ct M 156 1)) 1 (pm_ct M 156 2)) 2 (pm_ct M 156 3))]) (a := 155) (f := pm_upd (pm_upd (pm_upd (pm_upd (pm_ct M 155) 0 (pm_ct M 155 1)) 1 (pm_ct M 155 2)) 2 (pm_ct M 155 3)) 3 (pm_ct M 155 4)) rfl rfl
    refine m_iastore (u := [(155, pm_upd (pm_upd (pm_upd (pm_ct M 155) 0 (pm_ct M 155 1)) 1 (pm_ct M 155 2)) 2 (pm_ct M 155 3)), (156, pm_upd (pm_upd (pm_upd (pm_ct M 156) 0 (pm_ct M 156 1)) 1 (pm_ct M 156 2)) 2 (pm_ct M 156 3))]) (u' := [(155, pm_upd (pm_upd (pm_upd (pm_upd (pm_ct M 155) 0 (pm_ct M 155 1)) 1 (pm_ct M 155 2)) 2 (pm_ct M 155 3)) 3 (pm_ct M 155 4)), (156, pm_upd (pm_upd (pm_upd (pm_ct M 156) 0 (pm_ct M 156 1)) 1 (pm_ct M 156 2)) 2 (pm_ct M 156 3))]) (M := M) lk_260_30 (lay6.ay (by decide) rfl) (by omega) (j := 3) (by omega) rfl ?_
    refine g_aload_n lk_260_31 rfl ?_
    refine g_getfield lk_260_32 rfl (lay7.on (by decide) rfl) (v := ((156 : Nat) : Int)) (lay7.rf rfl) ?_
    refine g_iload_n lk_260_35 rfl ?_
    refine g_iconst lk_260_36 ?_
    refine g_isub lk_260_37 ?_
    refine g_top (z := (4 - 1)) (z' := 3) (by omega) ?_
    refine g_aload_n lk_260_38 rfl ?_
    refine g_getfield lk_260_39 rfl (lay7.on (by decide) rfl) (v := ((156 : Nat) : Int)) (lay7.rf rfl) ?_
    refine g_iload_n lk_260_42 rfl ?_
    refine m_iaload (u := [(155, pm_upd (pm_upd (pm_upd (pm_upd (pm_ct M 155) 0 (pm_ct M 155 1)) 1 (pm_ct M 155 2)) 2 (pm_ct M 155 3)) 3 (pm_ct M 155 4)), (156, pm_upd (pm_upd (pm_upd (pm_ct M 156) 0 (pm_ct M 156 1)) 1 (pm_ct M 156 2)) 2 (pm_ct M 156 3))]) (M := M) lk_260_43 (lay7.ay (by decide) rfl) (by omega) (j := 4) (by omega) (v := pm_ct M 156 4) rfl ?_
    have lay8 : Lay (Mu [(155, pm_upd (pm_upd (pm_upd (pm_upd (pm_ct M 155) 0 (pm_ct M 155 1)) 1 (pm_ct M 155 2)) 2 (pm_ct M 155 3)) 3 (pm_ct M 155 4)), (156, pm_upd (pm_upd (pm_upd (pm_upd (pm_ct M 156) 0 (pm_ct M 156 1)) 1 (pm_ct M 156 2)) 2 (pm_ct M 156 3)) 3 (pm_ct M 156 4))] M) := lay7.muA (l := [(155, pm_upd (pm_upd (pm_upd (pm_upd (pm_ct M 155) 0 (pm_ct M 155 1)) 1 (pm_ct M 155 2)) 2 (pm_ct M 155 3)) 3 (pm_ct M 155 4)), (156, pm_upd (pm_upd (pm_upd (pm_ct M 156) 0 (pm_ct M 156 1)) 1 (pm_ct M 156 2)) 2 (pm_ct M 156 3))]) (a := 156) (f := pm_upd (pm_upd (pm_upd (pm_upd (pm_ct M 156) 0 (pm_ct M 156 1)) 1 (pm_ct M 156 2)) 2 (pm_ct M 156 3)) 3 (pm_ct M 156 4)) rfl rfl
    refine m_iastore (u := [(155, pm_upd (pm_upd (pm_upd (pm_upd (pm_ct M 155) 0 (pm_ct M 155 1)) 1 (pm_ct M 155 2)) 2 (pm_ct M 155 3)) 3 (pm_ct M 155 4)), (156, pm_upd (pm_upd (pm_upd (pm_ct M 156) 0 (pm_ct M 156 1)) 1 (pm_ct M 156 2)) 2 (pm_ct M 156 3))]) (u' := [(155, pm_upd (pm_upd (pm_upd (pm_upd (pm_ct M 155) 0 (pm_ct M 155 1)) 1 (pm_ct M 155 2)) 2 (pm_ct M 155 3)) 3 (pm_ct M 155 4)), (156, pm_upd (pm_upd (pm_upd (pm_upd (pm_ct M 156) 0 (pm_ct M 156 1)) 1 (pm_ct M 156 2)) 2 (pm_ct M 156 3)) 3 (pm_ct M 156 4))]) (M := M) lk_260_44 (lay7.ay (by decide) rfl) (by omega) (j := 3) (by omega) rfl ?_
    refine g_iinc (ls' := [(2, ((116 : Nat) : Int)), (0, z1), (0, z2), (0, 5)]) lk_260_45 rfl rfl rfl ?_
    refine g_goto (t := 11) lk_260_48 rfl ?_
    refine g_iload_n lk_260_11 rfl ?_
    refine g_bipush lk_260_12 ?_
    refine g_icmp (t := 51) lk_260_14 rfl (by first | (unfold pm_inI; omega) | exact pm_and_in _ _ | exact pm_shr_in _ _ | exact pm_or_in _ _ | exact pm_xor_in _ _ | exact pm_shl_in _ _ | exact pm_cmp_in _ _ | exact pm_b8_in _ | (unfold pm_inI; split <;> omega)) (by first | (unfold pm_inI; omega) | exact pm_and_in _ _ | exact pm_shr_in _ _ | exact pm_or_in _ _ | exact pm_xor_in _ _ | exact pm_shl_in _ _ | exact pm_cmp_in _ _ | exact pm_b8_in _ | (unfold pm_inI; split <;> omega)) (fun h => absurd h (show ¬ ((12 : Int) ≤ (5 : Int)) by omega)) (fun _ => ?_)
    refine g_aload_n lk_260_17 rfl ?_
    refine g_getfield lk_260_18 rfl (lay8.on (by decide) rfl) (v := ((155 : Nat) : Int)) (lay8.rf rfl) ?_
    refine g_iload_n lk_260_21 rfl ?_
    refine g_iconst lk_260_22 ?_
    refine g_isub lk_260_23 ?_
    refine g_top (z := (5 - 1)) (z' := 4) (by omega) ?_
    refine g_aload_n lk_260_24 rfl ?_
    refine g_getfield lk_260_25 rfl (lay8.on (by decide) rfl) (v := ((155 : Nat) : Int)) (lay8.rf rfl) ?_
    refine g_iload_n lk_260_28 rfl ?_
    refine m_iaload (u := [(155, pm_upd (pm_upd (pm_upd (pm_upd (pm_ct M 155) 0 (pm_ct M 155 1)) 1 (pm_ct M 155 2)) 2 (pm_ct M 155 3)) 3 (pm_ct M 155 4)), (156, pm_upd (pm_upd (pm_upd (pm_upd (pm_ct M 156) 0 (pm_ct M 156 1)) 1 (pm_ct M 156 2)) 2 (pm_ct M 156 3)) 3 (pm_ct M 156 4))]) (M := M) lk_260_29 (lay8.ay (by decide) rfl) (by omega) (j := 5) (by omega) (v := pm_ct M 155 5) rfl ?_
    have lay9 : Lay (Mu [(155, pm_upd (pm_upd (pm_upd (pm_upd (pm_upd (pm_ct M 155) 0 (pm_ct M 155 1)) 1 (pm_ct M 155 2)) 2 (pm_ct M 155 3)) 3 (pm_ct M 155 4)) 4 (pm_ct M 155 5)), (156, pm_upd (pm_upd (pm_upd (pm_upd (pm_ct M 156) 0 (pm_ct M 156 1)) 1 (pm_ct M 156 2)) 2 (pm_ct M 156 3)) 3 (pm_ct M 156 4))] M) := lay8.muA (l := [(155, pm_upd (pm_upd (pm_upd (pm_upd (pm_ct M 155) 0 (pm_ct M 155 1)) 1 (pm_ct M 155 2)) 2 (pm_ct M 155 3)) 3 (pm_ct M 155 4)), (156, pm_upd (pm_upd (pm_upd (pm_upd (pm_ct M 156) 0 (pm_ct M 156 1)) 1 (pm_ct M 156 2)) 2 (pm_ct M 156 3)) 3 (pm_ct M 156 4))]) (a := 155) (f := pm_upd (pm_upd (pm_upd (pm_upd (pm_upd (pm_ct M 155) 0 (pm_ct M 155 1)) 1 (pm_ct M 155 2)) 2 (pm_ct M 155 3)) 3 (pm_ct M 155 4)) 4 (pm_ct M 155 5)) rfl rfl
    refine m_iastore (u := [(155, pm_upd (pm_upd (pm_upd (pm_upd (pm_ct M 155) 0 (pm_ct M 155 1)) 1 (pm_ct M 155 2)) 2 (pm_ct M 155 3)) 3 (pm_ct M 155 4)), (156, pm_upd (pm_upd (pm_upd (pm_upd (pm_ct M 156) 0 (pm_ct M 156 1)) 1 (pm_ct M 156 2)) 2 (pm_ct M 156 3)) 3 (pm_ct M 156 4))]) (u' := [(155, pm_upd (pm_upd (pm_upd (pm_upd (pm_upd (pm_ct M 155) 0 (pm_ct M 155 1)) 1 (pm_ct M 155 2)) 2 (pm_ct M 155 3)) 3 (pm_ct M 155 4)) 4 (pm_ct M 155 5)), (156, pm_upd (pm_upd (pm_upd (pm_upd (pm_ct M 156) 0 (pm_ct M 156 1)) 1 (pm_ct M 156 2)) 2 (pm_ct M 156 3)) 3 (pm_ct M 156 4))]) (M := M) lk_260_30 (lay8.ay (by decide) rfl) (by omega) (j := 4) (by omega) rfl ?_
    refine g_aload_n lk_260_31 rfl ?_
    refine g_getfield lk_260_32 rfl (lay9.on (by decide) rfl) (v := ((156 : Nat) : Int)) (lay9.rf rfl) ?_
    refine g_iload_n lk_260_35 rfl ?_
    refine g_iconst lk_260_36 ?_
    refine g_isub lk_260_37 ?_
    refine g_top (z := (5 - 1)) (z' := 4) (by omega) ?_
    refine g_aload_n lk_260_38 rfl ?_
    refine g_getfield lk_260_39 rfl (lay9.on (by decide) rfl) (v := ((156 : Nat) : Int)) (lay9.rf rfl) ?_
    refine g_iload_n lk_260_42 rfl ?_
    refine m_iaload (u := [(155, pm_upd (pm_upd (pm_upd (pm_upd (pm_upd (pm_ct M 155) 0 (pm_ct M 155 1)) 1 (pm_ct M 155 2)) 2 (pm_ct M 155 3)) 3 (pm_ct M 155 4)) 4 (pm_ct M 155 5)), (156, pm_upd (pm_upd (pm_upd (pm_upd (pm_ct M 156) 0 (pm_ct M 156 1)) 1 (pm_ct M 156 2)) 2 (pm_ct M 156 3)) 3 (pm_ct M 156 4))]) (M := M) lk_260_43 (lay9.ay (by decide) rfl) (by omega) (j := 5) (by omega) (v := pm_ct M 156 5) rfl ?_
    have lay10 : Lay (Mu [(155, pm_upd (pm_upd (pm_upd (pm_upd (pm_upd (pm_ct M 155) 0 (pm_ct M 155 1)) 1 (pm_ct M 155 2)) 2 (pm_ct M 155 3)) 3 (pm_ct M 155 4)) 4 (pm_ct M 155 5)), (156, pm_upd (pm_upd (pm_upd (pm_upd (pm_upd (pm_ct M 156) 0 (pm_ct M 156 1)) 1 (pm_ct M 156 2)) 2 (pm_ct M 156 3)) 3 (pm_ct M 156 4)) 4 (pm_ct M 156 5))] M) := lay9.muA (l := [(155, pm_upd (pm_upd (pm_upd (pm_upd (pm_upd (pm_ct M 155) 0 (pm_ct M 155 1)) 1 (pm_ct M 155 2)) 2 (pm_ct M 155 3)) 3 (pm_ct M 155 4)) 4 (pm_ct M 155 5)), (156, pm_upd (pm_upd (pm_upd (pm_upd (pm_ct M 156) 0 (pm_ct M 156 1)) 1 (pm_ct M 156 2)) 2 (pm_ct M 156 3)) 3 (pm_ct M 156 4))]) (a := 156) (f := pm_upd (pm_upd (pm_upd (pm_upd (pm_upd (pm_ct M 156) 0 (pm_ct M 156 1)) 1 (pm_ct M 156 2)) 2 (pm_ct M 156 3)) 3 (pm_ct M 156 4)) 4 (pm_ct M 156 5)) rfl rfl
    refine m_iastore (u := [(155, pm_upd (pm_upd (pm_upd (pm_upd (pm_upd (pm_ct M 155) 0 (pm_ct M 155 1)) 1 (pm_ct M 155 2)) 2 (pm_ct M 155 3)) 3 (pm_ct M 155 4)) 4 (pm_ct M 155 5)), (156, pm_upd (pm_upd (pm_upd (pm_upd (pm_ct M 156) 0 (pm_ct M 156 1)) 1 (pm_ct M 156 2)) 2 (pm_ct M 156 3)) 3 (pm_ct M 156 4))]) (u' := [(155, pm_upd (pm_upd (pm_upd (pm_upd (pm_upd (pm_ct M 155) 0 (pm_ct M 155 1)) 1 (pm_ct M 155 2)) 2 (pm_ct M 155 3)) 3 (pm_ct M 155 4)) 4 (pm_ct M 155 5)), (156, pm_upd (pm_upd (pm_upd (pm_upd (pm_upd (pm_ct M 156) 0 (pm_ct M 156 1)) 1 (pm_ct M 156 2)) 2 (pm_ct M 156 3)) 3 (pm_ct M 156 4)) 4 (pm_ct M 156 5))]) (M := M) lk_260_44 (lay9.ay (by decide) rfl) (by omega) (j := 4) (by omega) rfl ?_
    refine g_iinc (ls' := [(2, ((116 : Nat) : Int)), (0, z1), (0, z2), (0, 6)]) lk_260_45 rfl rfl rfl ?_
    refine g_goto (t := 11) lk_260_48 rfl ?_
    refine g_iload_n lk_260_11 rfl ?_
    refine g_bipush lk_260_12 ?_
    refine g_icmp (t := 51) lk_260_14 rfl (by first | (unfold pm_inI; omega) | exact pm_and_in _ _ | exact pm_shr_in _ _ | exact pm_or_in _ _ | exact pm_xor_in _ _ | exact pm_shl_in _ _ | exact pm_cmp_in _ _ | exact pm_b8_in _ | (unfold pm_inI; split <;> omega)) (by first | (unfold pm_inI; omega) | exact pm_and_in _ _ | exact pm_shr_in _ _ | exact pm_or_in _ _ | exact pm_xor_in _ _ | exact pm_shl_in _ _ | exact pm_cmp_in _ _ | exact pm_b8_in _ | (unfold pm_inI; split <;> omega)) (fun h => absurd h (show ¬ ((12 : Int) ≤ (6 : Int)) by omega)) (fun _ => ?_)
    refine g_aload_n lk_260_17 rfl ?_
    refine g_getfield lk_260_18 rfl (lay10.on (by decide) rfl) (v := ((155 : Nat) : Int)) (lay10.rf rfl) ?_
    refine g_iload_n lk_260_21 rfl ?_
    refine g_iconst lk_260_22 ?_
    refine g_isub lk_260_23 ?_
    refine g_top (z := (6 - 1)) (z' := 5) (by omega) ?_
    refine g_aload_n lk_260_24 rfl ?_
    refine g_getfield lk_260_25 rfl (lay10.on (by decide) rfl) (v := ((155 : Nat) : Int)) (lay10.rf rfl) ?_
    refine g_iload_n lk_260_28 rfl ?_
    refine m_iaload (u := [(155, pm_upd (pm_upd (pm_upd (pm_upd (pm_upd (pm_ct M 155) 0 (pm_ct M 155 1)) 1 (pm_ct M 155 2)) 2 (pm_ct M 155 3)) 3 (pm_ct M 155 4)) 4 (pm_ct M 155 5)), (156, pm_upd (pm_upd (pm_upd (pm_upd (pm_upd (pm_ct M 156) 0 (pm_ct M 156 1)) 1 (pm_ct M 156 2)) 2 (pm_ct M 156 3)) 3 (pm_ct M 156 4)) 4 (pm_ct M 156 5))]) (M := M) lk_260_29 (lay10.ay (by decide) rfl) (by omega) (j := 6) (by omega) (v := pm_ct M 155 6) rfl ?_
    have lay11 : Lay (Mu [(155, pm_upd (pm_upd (pm_upd (pm_upd (pm_upd (pm_upd (pm_ct M 155) 0 (pm_ct M 155 1)) 1 (pm_ct M 155 2)) 2 (pm_ct M 155 3)) 3 (pm_ct M 155 4)) 4 (pm_ct M 155 5)) 5 (pm_ct M 155 6)), (156, pm_upd (pm_upd (pm_upd (pm_upd (pm_upd (pm_ct M 156) 0 (pm_ct M 156 1)) 1 (pm_ct M 156 2)) 2 (pm_ct M 156 3)) 3 (pm_ct M 156 4)) 4 (pm_ct M 156 5))] M) := lay10.muA (l := [(155, pm_upd (pm_upd (pm_upd (pm_upd (pm_upd (pm_ct M 155) 0 (pm_ct M 155 1)) 1 (pm_ct M 155 2)) 2 (pm_ct M 155 3)) 3 (pm_ct M 155 4)) 4 (pm_ct M 155 5)), (156, pm_upd (pm_upd (pm_upd (pm_upd (pm_upd (pm_ct M 156) 0 (pm_ct M 156 1)) 1 (pm_ct M 156 2)) 2 (pm_ct M 156 3)) 3 (pm_ct M 156 4)) 4 (pm_ct M 156 5))]) (a := 155) (f := pm_upd (pm_upd (pm_upd (pm_upd (pm_upd (pm_upd (pm_ct M 155) 0 (pm_ct M 155 1)) 1 (pm_ct M 155 2)) 2 (pm_ct M 155 3)) 3 (pm_ct M 155 4)) 4 (pm_ct M 155 5)) 5 (pm_ct M 155 6)) rfl rfl
    refine m_iastore (u := [(155, pm_upd (pm_upd (pm_upd (pm_upd (pm_upd (pm_ct M 155) 0 (pm_ct M 155 1)) 1 (pm_ct M 155 2)) 2 (pm_ct M 155 3)) 3 (pm_ct M 155 4)) 4 (pm_ct M 155 5)), (156, pm_upd (pm_upd (pm_upd (pm_upd (pm_upd (pm_ct M 156) 0 (pm_ct M 156 1)) 1 (pm_ct M 156 2)) 2 (pm_ct M 156 3)) 3 (pm_ct M 156 4)) 4 (pm_ct M 156 5))]) (u' := [(155, pm_upd (pm_upd (pm_upd (pm_upd (pm_upd (pm_upd (pm_ct M 155) 0 (pm_ct M 155 1)) 1 (pm_ct M 155 2)) 2 (pm_ct M 155 3)) 3 (pm_ct M 155 4)) 4 (pm_ct M 155 5)) 5 (pm_ct M 155 6)), (156, pm_upd (pm_upd (pm_upd (pm_upd (pm_upd (pm_ct M 156) 0 (pm_ct M 156 1)) 1 (pm_ct M 156 2)) 2 (pm_ct M 156 3)) 3 (pm_ct M 156 4)) 4 (pm_ct M 156 5))]) (M := M) lk_260_30 (lay10.ay (by decide) rfl) (by omega) (j := 5) (by omega) rfl ?_
    refine g_aload_n lk_260_31 rfl ?_
    refine g_getfield lk_260_32 rfl (lay11.on (by decide) rfl) (v := ((156 : Nat) : Int)) (lay11.rf rfl) ?_
    refine g_iload_n lk_260_35 rfl ?_
    refine g_iconst lk_260_36 ?_
    refine g_isub lk_260_37 ?_
    refine g_top (z := (6 - 1)) (z' := 5) (by omega) ?_
    refine g_aload_n lk_260_38 rfl ?_
    refine g_getfield lk_260_39 rfl (lay11.on (by decide) rfl) (v := ((156 : Nat) : Int)) (lay11.rf rfl) ?_
    refine g_iload_n lk_260_42 rfl ?_
    refine m_iaload (u := [(155, pm_upd (pm_upd (pm_upd (pm_upd (pm_upd (pm_upd (pm_ct M 155) 0 (pm_ct M 155 1)) 1 (pm_ct M 155 2)) 2 (pm_ct M 155 3)) 3 (pm_ct M 155 4)) 4 (pm_ct M 155 5)) 5 (pm_ct M 155 6)), (156, pm_upd (pm_upd (pm_upd (pm_upd (pm_upd (pm_ct M 156) 0 (pm_ct M 156 1)) 1 (pm_ct M 156 2)) 2 (pm_ct M 156 3)) 3 (pm_ct M 156 4)) 4 (pm_ct M 156 5))]) (M := M) lk_260_43 (lay11.ay (by decide) rfl) (by omega) (j := 6) (by omega) (v := pm_ct M 156 6) rfl ?_
    have lay12 : Lay (Mu [(155, pm_upd (pm_upd (pm_upd (pm_upd (pm_upd (pm_upd (pm_ct M 155) 0 (pm_ct M 155 1)) 1 (pm_ct M 155 2)) 2 (pm_ct M 155 3)) 3 (pm_ct M 155 4)) 4 (pm_ct M 155 5)) 5 (pm_ct M 155 6)), (156, pm_upd (pm_upd (pm_upd (pm_upd (pm_upd (pm_upd (pm_ct M 156) 0 (pm_ct M 156 1)) 1 (pm_ct M 156 2)) 2 (pm_ct M 156 3)) 3 (pm_ct M 156 4)) 4 (pm_ct M 156 5)) 5 (pm_ct M 156 6))] M) := lay11.muA (l := [(155, pm_upd (pm_upd (pm_upd (pm_upd (pm_upd (pm_upd (pm_ct M 155) 0 (pm_ct M 155 1)) 1 (pm_ct M 155 2)) 2 (pm_ct M 155 3)) 3 (pm_ct M 155 4)) 4 (pm_ct M 155 5)) 5 (pm_ct M 155 6)), (156, pm_upd (pm_upd (pm_upd (pm_upd (pm_upd (pm_ct M 156) 0 (pm_ct M 156 1)) 1 (pm_ct M 156 2)) 2 (pm_ct M 156 3)) 3 (pm_ct M 156 4)) 4 (pm_ct M 156 5))]) (a := 156) (f := pm_upd (pm_upd (pm_upd (pm_upd (pm_upd (pm_upd (pm_ct M 156) 0 (pm_ct M 156 1)) 1 (pm_ct M 156 2)) 2 (pm_ct M 156 3)) 3 (pm_ct M 156 4)) 4 (pm_ct M 156 5)) 5 (pm_ct M 156 6)) rfl rfl
    refine m_iastore (u := [(155, pm_upd (pm_upd (pm_upd (pm_upd (pm_upd (pm_upd (pm_ct M 155) 0 (pm_ct M 155 1)) 1 (pm_ct M 155 2)) 2 (pm_ct M 155 3)) 3 (pm_ct M 155 4)) 4 (pm_ct M 155 5)) 5 (pm_ct M 155 6)), (156, pm_upd (pm_upd (pm_upd (pm_upd (pm_upd (pm_ct M 156) 0 (pm_ct M 156 1)) 1 (pm_ct M 156 2)) 2 (pm_ct M 156 3)) 3 (pm_ct M 156 4)) 4 (pm_ct M 156 5))]) (u' := [(155, pm_upd (pm_upd (pm_upd (pm_upd (pm_upd (pm_upd (pm_ct M 155) 0 (pm_ct M 155 1)) 1 (pm_ct M 155 2)) 2 (pm_ct M 155 3)) 3 (pm_ct M 155 4)) 4 (pm_ct M 155 5)) 5 (pm_ct M 155 6)), (156, pm_upd (pm_upd (pm_upd (pm_upd (pm_upd (pm_upd (pm_ct M 156) 0 (pm_ct M 156 1)) 1 (pm_ct M 156 2)) 2 (pm_ct M 156 3)) 3 (pm_ct M 156 4)) 4 (pm_ct M 156 5)) 5 (pm_ct M 156 6))]) (M := M) lk_260_44 (lay11.ay (by decide) rfl) (by omega) (j := 5) (by omega) rfl ?_
    refine g_iinc (ls' := [(2, ((116 : Nat) : Int)), (0, z1), (0, z2), (0, 7)]) lk_260_45 rfl rfl rfl ?_
    refine g_goto (t := 11) lk_260_48 rfl ?_
    refine g_iload_n lk_260_11 rfl ?_
    refine g_bipush lk_260_12 ?_
    refine g_icmp (t := 51) lk_260_14 rfl (by first | (unfold pm_inI; omega) | exact pm_and_in _ _ | exact pm_shr_in _ _ | exact pm_or_in _ _ | exact pm_xor_in _ _ | exact pm_shl_in _ _ | exact pm_cmp_in _ _ | exact pm_b8_in _ | (unfold pm_inI; split <;> omega)) (by first | (unfold pm_inI; omega) | exact pm_and_in _ _ | exact pm_shr_in _ _ | exact pm_or_in _ _ | exact pm_xor_in _ _ | exact pm_shl_in _ _ | exact pm_cmp_in _ _ | exact pm_b8_in _ | (unfold pm_inI; split <;> omega)) (fun h => absurd h (show ¬ ((12 : Int) ≤ (7 : Int)) by omega)) (fun _ => ?_)
    refine g_aload_n lk_260_17 rfl ?_
    refine g_getfield lk_260_18 rfl (lay12.on (by decide) rfl) (v := ((155 : Nat) : Int)) (lay12.rf rfl) ?_
    refine g_iload_n lk_260_21 rfl ?_
    refine g_iconst lk_260_22 ?_
    refine g_isub lk_260_23 ?_
    refine g_top (z := (7 - 1)) (z' := 6) (by omega) ?_
    refine g_aload_n lk_260_24 rfl ?_
    refine g_getfield lk_260_25 rfl (lay12.on (by decide) rfl) (v := ((155 : Nat) : Int)) (lay12.rf rfl) ?_
    refine g_iload_n lk_260_28 rfl ?_
    refine m_iaload (u := [(155, pm_upd (pm_upd (pm_upd (pm_upd (pm_upd (pm_upd (pm_ct M 155) 0 (pm_ct M 155 1)) 1 (pm_ct M 155 2)) 2 (pm_ct M 155 3)) 3 (pm_ct M 155 4)) 4 (pm_ct M 155 5)) 5 (pm_ct M 155 6)), (156, pm_upd (pm_upd (pm_upd (pm_upd (pm_upd (pm_upd (pm_ct M 156) 0 (pm_ct M 156 1)) 1 (pm_ct M 156 2)) 2 (pm_ct M 156 3)) 3 (pm_ct M 156 4)) 4 (pm_ct M 156 5)) 5 (pm_ct M 156 6))]) (M := M) lk_260_29 (lay12.ay (by decide) rfl) (by omega) (j := 7) (by omega) (v := pm_ct M 155 7) rfl ?_
    have lay13 : Lay (Mu [(155, pm_upd (pm_upd (pm_upd (pm_upd (pm_upd (pm_upd (pm_upd (pm_ct M 155) 0 (pm_ct M 155 1)) 1 (pm_ct M 155 2)) 2 (pm_ct M 155 3)) 3 (pm_ct M 155 4)) 4 (pm_ct M 155 5)) 5 (pm_ct M 155 6)) 6 (pm_ct M 155 7)), (156, pm_upd (pm_upd (pm_upd (pm_upd (pm_upd (pm_upd (pm_ct M 156) 0 (pm_ct M 156 1)) 1 (pm_ct M 156 2)) 2 (pm_ct M 156 3)) 3 (pm_ct M 156 4)) 4 (pm_ct M 156 5)) 5 (pm_ct M 156 6))] M) := lay12.muA (l := [(155, pm_upd (pm_upd (pm_upd (pm_upd (pm_upd (pm_upd (pm_ct M 155) 0 (pm_ct M 155 1)) 1 (pm_ct M 155 2)) 2 (pm_ct M 155 3)) 3 (pm_ct M 155 4)) 4 (pm_ct M 155 5)) 5 (pm_ct M 155 6)), (156, pm_upd (pm_upd (pm_upd (pm_upd (pm_upd (pm_upd (pm_ct M 156) 0 (pm_ct M 156 1)) 1 (pm_ct M 156 2)) 2 (pm_ct M 156 3)) 3 (pm_ct M 156 4)) 4 (pm_ct M 156 5)) 5 (pm_ct M 156 6))]) (a := 155) (f := pm_upd (pm_upd (pm_upd (pm_upd (pm_upd (pm_upd (pm_upd (pm_ct M 155) 0 (pm_ct M 155 1)) 1 (pm_ct M 155 2)) 2 (pm_ct M 155 3)) 3 (pm_ct M 155 4)) 4 (pm_ct M 155 5)) 5 (pm_ct M 155 6)) 6 (pm_ct M 155 7)) rfl rfl
    refine m_iastore (u := [(155, pm_upd (pm_upd (pm_upd (pm_upd (pm_upd (pm_upd (pm_ct M 155) 0 (pm_ct M 155 1)) 1 (pm_ct M 155 2)) 2 (pm_ct M 155 3)) 3 (pm_ct M 155 4)) 4 (pm_ct M 155 5)) 5 (pm_ct M 155 6)), (156, pm_upd (pm_upd (pm_upd (pm_upd (pm_upd (pm_upd (pm_ct M 156) 0 (pm_ct M 156 1)) 1 (pm_ct M 156 2)) 2 (pm_ct M 156 3)) 3 (pm_ct M 156 4)) 4 (pm_ct M 156 5)) 5 (pm_ct M 156 6))]) (u' := [(155, pm_upd (pm_upd (pm_upd (pm_upd (pm_upd (pm_upd (pm_upd (pm_ct M 155) 0 (pm_ct M 155 1)) 1 (pm_ct M 155 2)) 2 (pm_ct M 155 3)) 3 (pm_ct M 155 4)) 4 (pm_ct M 155 5)) 5 (pm_ct M 155 6)) 6 (pm_ct M 155 7)), (156, pm_upd (pm_upd (pm_upd (pm_upd (pm_upd (pm_upd (pm_ct M 156) 0 (pm_ct M 156 1)) 1 (pm_ct M 156 2)) 2 (pm_ct M 156 3)) 3 (pm_ct M 156 4)) 4 (pm_ct M 156 5)) 5 (pm_ct M 156 6))]) (M := M) lk_260_30 (lay12.ay (by decide) rfl) (by omega) (j := 6) (by omega) rfl ?_
    refine g_aload_n lk_260_31 rfl ?_
    refine g_getfield lk_260_32 rfl (lay13.on (by decide) rfl) (v := ((156 : Nat) : Int)) (lay13.rf rfl) ?_
    refine g_iload_n lk_260_35 rfl ?_
    refine g_iconst lk_260_36 ?_
    refine g_isub lk_260_37 ?_
    refine g_top (z := (7 - 1)) (z' := 6) (by omega) ?_
    refine g_aload_n lk_260_38 rfl ?_
    refine g_getfield lk_260_39 rfl (lay13.on (by decide) rfl) (v := ((156 : Nat) : Int)) (lay13.rf rfl) ?_
    refine g_iload_n lk_260_42 rfl ?_
    refine m_iaload (u := [(155, pm_upd (pm_upd (pm_upd (pm_upd (pm_upd (pm_upd (pm_upd (pm_ct M 155) 0 (pm_ct M 155 1)) 1 (pm_ct M 155 2)) 2 (pm_ct M 155 3)) 3 (pm_ct M 155 4)) 4 (pm_ct M 155 5)) 5 (pm_ct M 155 6)) 6 (pm_ct M 155 7)), (156, pm_upd (pm_upd (pm_upd (pm_upd (pm_upd (pm_upd (pm_ct M 156) 0 (pm_ct M 156 1)) 1 (pm_ct M 156 2)) 2 (pm_ct M 156 3)) 3 (pm_ct M 156 4)) 4 (pm_ct M 156 5)) 5 (pm_ct M 156 6))]) (M := M) lk_260_43 (lay13.ay (by decide) rfl) (by omega) (j := 7) (by omega) (v := pm_ct M 156 7) rfl ?_
    have lay14 : Lay (Mu [(155, pm_upd (pm_upd (pm_upd (pm_upd (pm_upd (pm_upd (pm_upd (pm_ct M 155) 0 (pm_ct M 155 1)) 1 (pm_ct M 155 2)) 2 (pm_ct M 155 3)) 3 (pm_ct M 155 4)) 4 (pm_ct M 155 5)) 5 (pm_ct M 155 6)) 6 (pm_ct M 155 7)), (156, pm_upd (pm_upd (pm_upd (pm_upd (pm_upd (pm_upd (pm_upd (pm_ct M 156) 0 (pm_ct M 156 1)) 1 (pm_ct M 156 2)) 2 (pm_ct M 156 3)) 3 (pm_ct M 156 4)) 4 (pm_ct M 156 5)) 5 (pm_ct M 156 6)) 6 (pm_ct M 156 7))] M) := lay13.muA (l := [(155, pm_upd (pm_upd (pm_upd (pm_upd (pm_upd (pm_upd (pm_upd (pm_ct M 155) 0 (pm_ct M 155 1)) 1 (pm_ct M 155 2)) 2 (pm_ct M 155 3)) 3 (pm_ct M 155 4)) 4 (pm_ct M 155 5)) 5 (pm_ct M 155 6)) 6 (pm_ct M 155 7)), (156, pm_upd (pm_upd (pm_upd (pm_upd (pm_upd (pm_upd (pm_ct M 156) 0 (pm_ct M 156 1)) 1 (pm_ct M 156 2)) 2 (pm_ct M 156 3)) 3 (pm_ct M 156 4)) 4 (pm_ct M 156 5)) 5 (pm_ct M 156 6))]) (a := 156) (f := pm_upd (pm_upd (pm_upd (pm_upd (pm_upd (pm_upd (pm_upd (pm_ct M 156) 0 (pm_ct M 156 1)) 1 (pm_ct M 156 2)) 2 (pm_ct M 156 3)) 3 (pm_ct M 156 4)) 4 (pm_ct M 156 5)) 5 (pm_ct M 156 6)) 6 (pm_ct M 156 7)) rfl rfl
    refine m_iastore (u := [(155, pm_upd (pm_upd (pm_upd (pm_upd (pm_upd (pm_upd (pm_upd (pm_ct M 155) 0 (pm_ct M 155 1)) 1 (pm_ct M 155 2)) 2 (pm_ct M 155 3)) 3 (pm_ct M 155 4)) 4 (pm_ct M 155 5)) 5 (pm_ct M 155 6)) 6 (pm_ct M 155 7)), (156, pm_upd (pm_upd (pm_upd (pm_upd (pm_upd (pm_upd (pm_ct M 156) 0 (pm_ct M 156 1)) 1 (pm_ct M 156 2)) 2 (pm_ct M 156 3)) 3 (pm_ct M 156 4)) 4 (pm_ct M 156 5)) 5 (pm_ct M 156 6))]) (u' := [(155, pm_upd (pm_upd (pm_upd (pm_upd (pm_upd (pm_upd (pm_upd (pm_ct M 155) 0 (pm_ct M 155 1)) 1 (pm_ct M 155 2)) 2 (pm_ct M 155 3)) 3 (pm_ct M 155 4)) 4 (pm_ct M 155 5)) 5 (pm_ct M 155 6)) 6 (pm_ct M 155 7)), (156, pm_upd (pm_upd (pm_upd (pm_upd (pm_upd (pm_upd (pm_upd (pm_ct M 156) 0 (pm_ct M 156 1)) 1 (pm_ct M 156 2)) 2 (pm_ct M 156 3)) 3 (pm_ct M 156 4)) 4 (pm_ct M 156 5)) 5 (pm_ct M 156 6)) 6 (pm_ct M 156 7))]) (M := M) lk_260_44 (lay13.ay (by decide) rfl) (by omega) (j := 6) (by omega) rfl ?_
    refine g_iinc (ls' := [(2, ((116 : Nat) : Int)), (0, z1), (0, z2), (0, 8)]) lk_260_45 rfl rfl rfl ?_
    refine g_goto (t := 11) lk_260_48 rfl ?_
    refine g_iload_n lk_260_11 rfl ?_
    refine g_bipush lk_260_12 ?_
    refine g_icmp (t := 51) lk_260_14 rfl (by first | (unfold pm_inI; omega) | exact pm_and_in _ _ | exact pm_shr_in _ _ | exact pm_or_in _ _ | exact pm_xor_in _ _ | exact pm_shl_in _ _ | exact pm_cmp_in _ _ | exact pm_b8_in _ | (unfold pm_inI; split <;> omega)) (by first | (unfold pm_inI; omega) | exact pm_and_in _ _ | exact pm_shr_in _ _ | exact pm_or_in _ _ | exact pm_xor_in _ _ | exact pm_shl_in _ _ | exact pm_cmp_in _ _ | exact pm_b8_in _ | (unfold pm_inI; split <;> omega)) (fun h => absurd h (show ¬ ((12 : Int) ≤ (8 : Int)) by omega)) (fun _ => ?_)
    refine g_aload_n lk_260_17 rfl ?_
    refine g_getfield lk_260_18 rfl (lay14.on (by decide) rfl) (v := ((155 : Nat) : Int)) (lay14.rf rfl) ?_
    refine g_iload_n lk_260_21 rfl ?_
    refine g_iconst lk_260_22 ?_
    refine g_isub lk_260_23 ?_
    refine g_top (z := (8 - 1)) (z' := 7) (by omega) ?_
    refine g_aload_n lk_260_24 rfl ?_
    refine g_getfield lk_260_25 rfl (lay14.on (by decide) rfl) (v := ((155 : Nat) : Int)) (lay14.rf rfl) ?_
    refine g_iload_n lk_260_28 rfl ?_
    refine m_iaload (u := [(155, pm_upd (pm_upd (pm_upd (pm_upd (pm_upd (pm_upd (pm_upd (pm_ct M 155) 0 (pm_ct M 155 1)) 1 (pm_ct M 155 2)) 2 (pm_ct M 155 3)) 3 (pm_ct M 155 4)) 4 (pm_ct M 155 5)) 5 (pm_ct M 155 6)) 6 (pm_ct M 155 7)), (156, pm_upd (pm_upd (pm_upd (pm_upd (pm_upd (pm_upd (pm_upd (pm_ct M 156) 0 (pm_ct M 156 1)) 1 (pm_ct M 156 2)) 2 (pm_ct M 156 3)) 3 (pm_ct M 156 4)) 4 (pm_ct M 156 5)) 5 (pm_ct M 156 6)) 6 (pm_ct M 156 7))]) (M := M) lk_260_29 (lay14.ay (by decide) rfl) (by omega) (j := 8) (by omega) (v := pm_ct M 155 8) rfl ?_
    have lay15 : Lay (Mu [(155, pm_upd (pm_upd (pm_upd (pm_upd (pm_upd (pm_upd (pm_upd (pm_upd (pm_ct M 155) 0 (pm_ct M 155 1)) 1 (pm_ct M 155 2)) 2 (pm_ct M 155 3)) 3 (pm_ct M 155 4)) 4 (pm_ct M 155 5)) 5 (pm_ct M 155 6)) 6 (pm_ct M 155 7)) 7 (pm_ct M 155 8)), (156, pm_upd (pm_upd (pm_upd (pm_upd (pm_upd (pm_upd (pm_upd (pm_ct M 156) 0 (pm_ct M 156 1)) 1 (pm_ct M 156 2)) 2 (pm_ct M 156 3)) 3 (pm_ct M 156 4)) 4 (pm_ct M 156 5)) 5 (pm_ct M 156 6)) 6 (pm_ct M 156 7))] M) := lay14.muA (l := [(155, pm_upd (pm_upd (pm_upd (pm_upd (pm_upd (pm_upd (pm_upd (pm_ct M 155) 0 (pm_ct M 155 1)) 1 (pm_ct M 155 2)) 2 (pm_ct M 155 3)) 3 (pm_ct M 155 4)) 4 (pm_ct M 155 5)) 5 (pm_ct M 155 6)) 6 (pm_ct M 155 7)), (156, pm_upd (pm_upd (pm_upd (pm_upd (pm_upd (pm_upd (pm_upd (pm_ct M 156) 0 (pm_ct M 156 1)) 1 (pm_ct M 156 2)) 2 (pm_ct M 156 3)) 3 (pm_ct M 156 4)) 4 (pm_ct M 156 5)) 5 (pm_ct M 156 6)) 6 (pm_ct M 156 7))]) (a := 155) (f := pm_upd (pm_upd (pm_upd (pm_upd (pm_upd (pm_upd (pm_upd (pm_upd (pm_ct M 155) 0 (pm_ct M 155 1)) 1 (pm_ct M 155 2)) 2 (pm_ct M 155 3)) 3 (pm_ct M 155 4)) 4 (pm_ct M 155 5)) 5 (pm_ct M 155 6)) 6 (pm_ct M 155 7)) 7 (pm_ct M 155 8)) rfl rfl
    refine m_iastore (u := [(155, pm_upd (pm_upd (pm_upd (pm_upd (pm_upd (pm_upd (pm_upd (pm_ct M 155) 0 (pm_ct M 155 1)) 1 (pm_ct M 155 2)) 2 (pm_ct M 155 3)) 3 (pm_ct M 155 4)) 4 (pm_ct M 155 5)) 5 (pm_ct M 155 6)) 6 (pm_ct M 155 7)), (156, pm_upd (pm_upd (pm_upd (pm_upd (pm_upd (pm_upd (pm_upd (pm_ct M 156) 0 (pm_ct M 156 1)) 1 (pm_ct M 156 2)) 2 (pm_ct M 156 3)) 3 (pm_ct M 156 4)) 4 (pm_ct M 156 5)) 5 (pm_ct M 156 6)) 6 (pm_ct M 156 7))]) (u' := [(155, pm_upd (pm_upd (pm_upd (pm_upd (pm_upd (pm_upd (pm_upd (pm_upd (pm_ct M 155) 0 (pm_ct M 155 1)) 1 (pm_ct M 155 2)) 2 (pm_ct M 155 3)) 3 (pm_ct M 155 4)) 4 (pm_ct M 155 5)) 5 (pm_ct M 155 6)) 6 (pm_ct M 155 7)) 7 (pm_ct M 155 8)), (156, pm_upd (pm_upd (pm_upd (pm_upd (pm_upd (pm_upd (pm_upd (pm_ct M 156) 0 (pm_ct M 156 1)) 1 (pm_ct M 156 2)) 2 (pm_ct M 156 3)) 3 (pm_ct M 156 4)) 4 (pm_ct M 156 5)) 5 (pm_ct M 156 6)) 6 (pm_ct M 156 7))]) (M := M) lk_260_30 (lay14.ay (by decide) rfl) (by omega) (j := 7) (by omega) rfl ?_
    refine g_aload_n lk_260_31 rfl ?_
    refine g_getfield lk_260_32 rfl (lay15.on (by decide) rfl) (v := ((156 : Nat) : Int)) (lay15.rf rfl) ?_
    refine g_iload_n lk_260_35 rfl ?_
    refine g_iconst lk_260_36 ?_
    refine g_isub lk_260_37 ?_
    refine g_top (z := (8 - 1)) (z' := 7) (by omega) ?_
    refine g_aload_n lk_260_38 rfl ?_
    refine g_getfield lk_260_39 rfl (lay15.on (by decide) rfl) (v := ((156 : Nat) : Int)) (lay15.rf rfl) ?_
    refine g_iload_n lk_260_42 rfl ?_
    refine m_iaload (u := [(155, pm_upd (pm_upd (pm_upd (pm_upd (pm_upd (pm_upd (pm_upd (pm_upd (pm_ct M 155) 0 (pm_ct M 155 1)) 1 (pm_ct M 155 2)) 2 (pm_ct M 155 3)) 3 (pm_ct M 155 4)) 4 (pm_ct M 155 5)) 5 (pm_ct M 155 6)) 6 (pm_ct M 155 7)) 7 (pm_ct M 155 8)), (156, pm_upd (pm_upd (pm_upd (pm_upd (pm_upd (pm_upd (pm_upd (pm_ct M 156) 0 (pm_ct M 156 1)) 1 (pm_ct M 156 2)) 2 (pm_ct M 156 3)) 3 (pm_ct M 156 4)) 4 (pm_ct M 156 5)) 5 (pm_ct M 156 6)) 6 (pm_ct M 156 7))]) (M := M) lk_260_43 (lay15.ay (by decide) rfl) (by omega) (j := 8) (by omega) (v := pm_ct M 156 8) rfl ?_
    have lay16 : Lay (Mu [(155, pm_upd (pm_upd (pm_upd (pm_upd (pm_upd (pm_upd (pm_upd (pm_upd (pm_ct M 155) 0 (pm_ct M 155 1)) 1 (pm_ct M 155 2)) 2 (pm_ct M 155 3)) 3 (pm_ct M 155 4)) 4 (pm_ct M 155 5)) 5 (pm_ct M 155 6)) 6 (pm_ct M 155 7)) 7 (pm_ct M 155 8)), (156, pm_upd (pm_upd (pm_upd (pm_upd (pm_upd (pm_upd (pm_upd (pm_upd (pm_ct M 156) 0 (pm_ct M 156 1)) 1 (pm_ct M 156 2)) 2 (pm_ct M 156 3)) 3 (pm_ct M 156 4)) 4 (pm_ct M 156 5)) 5 (pm_ct M 156 6)) 6 (pm_ct M 156 7)) 7 (pm_ct M 156 8))] M) := lay15.muA (l := [(155, pm_upd (pm_upd (pm_upd (pm_upd (pm_upd (pm_upd (pm_upd (pm_upd (pm_ct M 155) 0 (pm_ct M 155 1)) 1 (pm_ct M 155 2)) 2 (pm_ct M 155 3)) 3 (pm_ct M 155 4)) 4 (pm_ct M 155 5)) 5 (pm_ct M 155 6)) 6 (pm_ct M 155 7)) 7 (pm_ct M 155 8)), (156, pm_upd (pm_upd (pm_upd (pm_upd (pm_upd (pm_upd (pm_upd (pm_ct M 156) 0 (pm_ct M 156 1)) 1 (pm_ct M 156 2)) 2 (pm_ct M 156 3)) 3 (pm_ct M 156 4)) 4 (pm_ct M 156 5)) 5 (pm_ct M 156 6)) 6 (pm_ct M 156 7))]) (a := 156) (f := pm_upd (pm_upd (pm_upd (pm_upd (pm_upd (pm_upd (pm_upd (pm_upd (pm_ct M 156) 0 (pm_ct M 156 1)) 1 (pm_ct M 156 2)) 2 (pm_ct M 156 3)) 3 (pm_ct M 156 4)) 4 (pm_ct M 156 5)) 5 (pm_ct M 156 6)) 6 (pm_ct M 156 7)) 7 (pm_ct M 156 8)) rfl rfl
    refine m_iastore (u := [(155, pm_upd (pm_upd (pm_upd (pm_upd (pm_upd (pm_upd (pm_upd (pm_upd (pm_ct M 155) 0 (pm_ct M 155 1)) 1 (pm_ct M 155 2)) 2 (pm_ct M 155 3)) 3 (pm_ct M 155 4)) 4 (pm_ct M 155 5)) 5 (pm_ct M 155 6)) 6 (pm_ct M 155 7)) 7 (pm_ct M 155 8)), (156, pm_upd (pm_upd (pm_upd (pm_upd (pm_upd (pm_upd (pm_upd (pm_ct M 156) 0 (pm_ct M 156 1)) 1 (pm_ct M 156 2)) 2 (pm_ct M 156 3)) 3 (pm_ct M 156 4)) 4 (pm_ct M 156 5)) 5 (pm_ct M 156 6)) 6 (pm_ct M 156 7))]) (u' := [(155, pm_upd (pm_upd (pm_upd (pm_upd (pm_upd (pm_upd (pm_upd (pm_upd (pm_ct M 155) 0 (pm_ct M 155 1)) 1 (pm_ct M 155 2)) 2 (pm_ct M 155 3)) 3 (pm_ct M 155 4)) 4 (pm_ct M 155 5)) 5 (pm_ct M 155 6)) 6 (pm_ct M 155 7)) 7 (pm_ct M 155 8)), (156, pm_upd (pm_upd (pm_upd (pm_upd (pm_upd (pm_upd (pm_upd (pm_upd (pm_ct M 156) 0 (pm_ct M 156 1)) 1 (pm_ct M 156 2)) 2 (pm_ct M 156 3)) 3 (pm_ct M 156 4)) 4 (pm_ct M 156 5)) 5 (pm_ct M 156 6)) 6 (pm_ct M 156 7)) 7 (pm_ct M 156 8))]) (M := M) lk_260_44 (lay15.ay (by decide) rfl) (by omega) (j := 7) (by omega) rfl ?_
    refine g_iinc (ls' := [(2, ((116 : Nat) : Int)), (0, z1), (0, z2), (0, 9)]) lk_260_45 rfl rfl rfl ?_
    refine g_goto (t := 11) lk_260_48 rfl ?_
    refine g_iload_n lk_260_11 rfl ?_
    refine g_bipush lk_260_12 ?_
    refine g_icmp (t := 51) lk_260_14 rfl (by first | (unfold pm_inI; omega) | exact pm_and_in _ _ | exact pm_shr_in _ _ | exact pm_or_in _ _ | exact pm_xor_in _ _ | exact pm_shl_in _ _ | exact pm_cmp_in _ _ | exact pm_b8_in _ | (unfold pm_inI; split <;> omega)) (by first | (unfold pm_inI; omega) | exact pm_and_in _ _ | exact pm_shr_in _ _ | exact pm_or_in _ _ | exact pm_xor_in _ _ | exact pm_shl_in _ _ | exact pm_cmp_in _ _ | exact pm_b8_in _ | (unfold pm_inI; split <;> omega)) (fun h => absurd h (show ¬ ((12 : Int) ≤ (9 : Int)) by omega)) (fun _ => ?_)
    refine g_aload_n lk_260_17 rfl ?_
    refine g_getfield lk_260_18 rfl (lay16.on (by decide) rfl) (v := ((155 : Nat) : Int)) (lay16.rf rfl) ?_
    refine g_iload_n lk_260_21 rfl ?_
    refine g_iconst lk_260_22 ?_
    refine g_isub lk_260_23 ?_
    refine g_top (z := (9 - 1)) (z' := 8) (by omega) ?_
    refine g_aload_n lk_260_24 rfl ?_
    refine g_getfield lk_260_25 rfl (lay16.on (by decide) rfl) (v := ((155 : Nat) : Int)) (lay16.rf rfl) ?_
    refine g_iload_n lk_260_28 rfl ?_
    refine m_iaload (u := [(155, pm_upd (pm_upd (pm_upd (pm_upd (pm_upd (pm_upd (pm_upd (pm_upd (pm_ct M 155) 0 (pm_ct M 155 1)) 1 (pm_ct M 155 2)) 2 (pm_ct M 155 3)) 3 (pm_ct M 155 4)) 4 (pm_ct M 155 5)) 5 (pm_ct M 155 6)) 6 (pm_ct M 155 7)) 7 (pm_ct M 155 8)), (156, pm_upd (pm_upd (pm_upd (pm_upd (pm_upd (pm_upd (pm_upd (pm_upd (pm_ct M 156) 0 (pm_ct M 156 1)) 1 (pm_ct M 156 2)) 2 (pm_ct M 156 3)) 3 (pm_ct M 156 4)) 4 (pm_ct M 156 5)) 5 (pm_ct M 156 6)) 6 (pm_ct M 156 7)) 7 (pm_ct M 156 8))]) (M := M) lk_260_29 (lay16.ay (by decide) rfl) (by omega) (j := 9) (by omega) (v := pm_ct M 155 9) rfl ?_
    have lay17 : Lay (Mu [(155, pm_upd (pm_upd (pm_upd (pm_upd (pm_upd (pm_upd (pm_upd (pm_upd (pm_upd (pm_ct M 155) 0 (pm_ct M 155 1)) 1 (pm_ct M 155 2)) 2 (pm_ct M 155 3)) 3 (pm_ct M 155 4)) 4 (pm_ct M 155 5)) 5 (pm_ct M 155 6)) 6 (pm_ct M 155 7)) 7 (pm_ct M 155 8)) 8 (pm_ct M 155 9)), (156, pm_upd (pm_upd (pm_upd (pm_upd (pm_upd (pm_upd (pm_upd (pm_upd (pm_ct M 156) 0 (pm_ct M 156 1)) 1 (pm_ct M 156 2)) 2 (pm_ct M 156 3)) 3 (pm_ct M 156 4)) 4 (pm_ct M 156 5)) 5 (pm_ct M 156 6)) 6 (pm_ct M 156 7)) 7 (pm_ct M 156 8))] M) := lay16.muA (l := [(155, pm_upd (pm_upd (pm_upd (pm_upd (pm_upd (pm_upd (pm_upd (pm_upd (pm_ct M 155) 0 (pm_ct M 155 1)) 1 (pm_ct M 155 2)) 2 (pm_ct M 155 3)) 3 (pm_ct M 155 4)) 4 (pm_ct M 155 5)) 5 (pm_ct M 155 6)) 6 (pm_ct M 155 7)) 7 (pm_ct M 155 8)), (156, pm_upd (pm_upd (pm_upd (pm_upd (pm_upd (pm_upd (pm_upd (pm_upd (pm_ct M 156) 0 (pm_ct M 156 1)) 1 (pm_ct M 156 2)) 2 (pm_ct M 156 3)) 3 (pm_ct M 156 4)) 4 (pm_ct M 156 5)) 5 (pm_ct M 156 6)) 6 (pm_ct M 156 7)) 7 (pm_ct M 156 8))]) (a := 155) (f := pm_upd (pm_upd (pm_upd (pm_upd (pm_upd (pm_upd (pm_upd (pm_upd (pm_upd (pm_ct M 155) 0 (pm_ct M 155 1)) 1 (pm_ct M 155 2)) 2 (pm_ct M 155 3)) 3 (pm_ct M 155 4)) 4 (pm_ct M 155 5)) 5 (pm_ct M 155 6)) 6 (pm_ct M 155 7)) 7 (pm_ct M 155 8)) 8 (pm_ct M 155 9)) rfl rfl
    refine m_iastore (u := [(155, pm_upd (pm_upd (pm_upd (pm_upd (pm_upd (pm_upd (pm_upd (pm_upd (pm_ct M 155) 0 (pm_ct M 155 1)) 1 (pm_ct M 155 2)) 2 (pm_ct M 155 3)) 3 (pm_ct M 155 4)) 4 (pm_ct M 155 5)) 5 (pm_ct M 155 6)) 6 (pm_ct M 155 7)) 7 (pm_ct M 155 8)), (156, pm_upd (pm_upd (pm_upd (pm_upd (pm_upd (pm_upd (pm_upd (pm_upd (pm_ct M 156) 0 (pm_ct M 156 1)) 1 (pm_ct M 156 2)) 2 (pm_ct M 156 3)) 3 (pm_ct M 156 4)) 4 (pm_ct M 156 5)) 5 (pm_ct M 156 6)) 6 (pm_ct M 156 7)) 7 (pm_ct M 156 8))]) (u' := [(155, pm_upd (pm_upd (pm_upd (pm_upd (pm_upd (pm_upd (pm_upd (pm_upd (pm_upd (pm_ct M 155) 0 (pm_ct M 155 1)) 1 (pm_ct M 155 2)) 2 (pm_ct M 155 3)) 3 (pm_ct M 155 4)) 4 (pm_ct M 155 5)) 5 (pm_ct M 155 6)) 6 (pm_ct M 155 7)) 7 (pm_ct M 155 8)) 8 (pm_ct M 155 9)), (156, pm_upd (pm_upd (pm_upd (pm_upd (pm_upd (pm_upd (pm_upd (pm_upd (pm_ct M 156) 0 (pm_ct M 156 1)) 1 (pm_ct M 156 2)) 2 (pm_ct M 156 3)) 3 (pm_ct M 156 4)) 4 (pm_ct M 156 5)) 5 (pm_ct M 156 6)) 6 (pm_ct M 156 7)) 7 (pm_ct M 156 8))]) (M := M) lk_260_30 (lay16.ay (by decide) rfl) (by omega) (j := 8) (by omega) rfl ?_
    refine g_aload_n lk_260_31 rfl ?_
    refine g_getfield lk_260_32 rfl (lay17.on (by decide) rfl) (v := ((156 : Nat) : Int)) (lay17.rf rfl) ?_
    refine g_iload_n lk_260_35 rfl ?_
    refine g_iconst lk_260_36 ?_
    refine g_isub lk_260_37 ?_
    refine g_top (z := (9 - 1)) (z' := 8) (by omega) ?_
    refine g_aload_n lk_260_38 rfl ?_
    refine g_getfield lk_260_39 rfl (lay17.on (by decide) rfl) (v := ((156 : Nat) : Int)) (lay17.rf rfl) ?_
    refine g_iload_n lk_260_42 rfl ?_
    refine m_iaload (u := [(155, pm_upd (pm_upd (pm_upd (pm_upd (pm_upd (pm_upd (pm_upd (pm_upd (pm_upd (pm_ct M 155) 0 (pm_ct M 155 1)) 1 (pm_ct M 155 2)) 2 (pm_ct M 155 3)) 3 (pm_ct M 155 4)) 4 (pm_ct M 155 5)) 5 (pm_ct M 155 6)) 6 (pm_ct M 155 7)) 7 (pm_ct M 155 8)) 8 (pm_ct M 155 9)), (156, pm_upd (pm_upd (pm_upd (pm_upd (pm_upd (pm_upd (pm_upd (pm_upd (pm_ct M 156) 0 (pm_ct M 156 1)) 1 (pm_ct M 156 2)) 2 (pm_ct M 156 3)) 3 (pm_ct M 156 4)) 4 (pm_ct M 156 5)) 5 (pm_ct M 156 6)) 6 (pm_ct M 156 7)) 7 (pm_ct M 156 8))]) (M := M) lk_260_43 (lay17.ay (by decide) rfl) (by omega) (j := 9) (by omega) (v := pm_ct M 156 9) rfl ?_
    have lay18 : Lay (Mu [(155, pm_upd (pm_upd (pm_upd (pm_upd (pm_upd (pm_upd (pm_upd (pm_upd (pm_upd (pm_ct M 155) 0 (pm_ct M 155 1)) 1 (pm_ct M 155 2)) 2 (pm_ct M 155 3)) 3 (pm_ct M 155 4)) 4 (pm_ct M 155 5)) 5 (pm_ct M 155 6)) 6 (pm_ct M 155 7)) 7 (pm_ct M 155 8)) 8 (pm_ct M 155 9)), (156, pm_upd (pm_upd (pm_upd (pm_upd (pm_upd (pm_upd (pm_upd (pm_upd (pm_upd (pm_ct M 156) 0 (pm_ct M 156 1)) 1 (pm_ct M 156 2)) 2 (pm_ct M 156 3)) 3 (pm_ct M 156 4)) 4 (pm_ct M 156 5)) 5 (pm_ct M 156 6)) 6 (pm_ct M 156 7)) 7 (pm_ct M 156 8)) 8 (pm_ct M 156 9))] M) := lay17.muA (l := [(155, pm_upd (pm_upd (pm_upd (pm_upd (pm_upd (pm_upd (pm_upd (pm_upd (pm_upd (pm_ct M 155) 0 (pm_ct M 155 1)) 1 (pm_ct M 155 2)) 2 (pm_ct M 155 3)) 3 (pm_ct M 155 4)) 4 (pm_ct M 155 5)) 5 (pm_ct M 155 6)) 6 (pm_ct M 155 7)) 7 (pm_ct M 155 8)) 8 (pm_ct M 155 9)), (156, pm_upd (pm_upd (pm_upd (pm_upd (pm_upd (pm_upd (pm_upd (pm_upd (pm_ct M 156) 0 (pm_ct M 156 1)) 1 (pm_ct M 156 2)) 2 (pm_ct M 156 3)) 3 (pm_ct M 156 4)) 4 (pm_ct M 156 5)) 5 (pm_ct M 156 6)) 6 (pm_ct M 156 7)) 7 (pm_ct M 156 8))]) (a := 156) (f := pm_upd (pm_upd (pm_upd (pm_upd (pm_upd (pm_upd (pm_upd (pm_upd (pm_upd (pm_ct M 156) 0 (pm_ct M 156 1)) 1 (pm_ct M 156 2)) 2 (pm_ct M 156 3)) 3 (pm_ct M 156 4)) 4 (pm_ct M 156 5)) 5 (pm_ct M 156 6)) 6 (pm_ct M 156 7)) 7 (pm_ct M 156 8)) 8 (pm_ct M 156 9)) rfl rfl
    refine m_iastore (u := [(155, pm_upd (pm_upd (pm_upd (pm_upd (pm_upd (pm_upd (pm_upd (pm_upd (pm_upd (pm_ct M 155) 0 (pm_ct M 155 1)) 1 (pm_ct M 155 2)) 2 (pm_ct M 155 3)) 3 (pm_ct M 155 4)) 4 (pm_ct M 155 5)) 5 (pm_ct M 155 6)) 6 (pm_ct M 155 7)) 7 (pm_ct M 155 8)) 8 (pm_ct M 155 9)), (156, pm_upd (pm_upd (pm_upd (pm_upd (pm_upd (pm_upd (pm_upd (pm_upd (pm_ct M 156) 0 (pm_ct M 156 1)) 1 (pm_ct M 156 2)) 2 (pm_ct M 156 3)) 3 (pm_ct M 156 4)) 4 (pm_ct M 156 5)) 5 (pm_ct M 156 6)) 6 (pm_ct M 156 7)) 7 (pm_ct M 156 8))]) (u' := [(155, pm_upd (pm_upd (pm_upd (pm_upd (pm_upd (pm_upd (pm_upd (pm_upd (pm_upd (pm_ct M 155) 0 (pm_ct M 155 1)) 1 (pm_ct M 155 2)) 2 (pm_ct M 155 3)) 3 (pm_ct M 155 4)) 4 (pm_ct M 155 5)) 5 (pm_ct M 155 6)) 6 (pm_ct M 155 7)) 7 (pm_ct M 155 8)) 8 (pm_ct M 155 9)), (156, pm_upd (pm_upd (pm_upd (pm_upd (pm_upd (pm_upd (pm_upd (pm_upd (pm_upd (pm_ct M 156) 0 (pm_ct M 156 1)) 1 (pm_ct M 156 2)) 2 (pm_ct M 156 3)) 3 (pm_ct M 156 4)) 4 (pm_ct M 156 5)) 5 (pm_ct M 156 6)) 6 (pm_ct M 156 7)) 7 (pm_ct M 156 8)) 8 (pm_ct M 156 9))]) (M := M) lk_260_44 (lay17.ay (by decide) rfl) (by omega) (j := 8) (by omega) rfl ?_
    refine g_iinc (ls' := [(2, ((116 : Nat) : Int)), (0, z1), (0, z2), (0, 10)]) lk_260_45 rfl rfl rfl ?_
    refine g_goto (t := 11) lk_260_48 rfl ?_
    refine g_iload_n lk_260_11 rfl ?_
    refine g_bipush lk_260_12 ?_
    refine g_icmp (t := 51) lk_260_14 rfl (by first | (unfold pm_inI; omega) | exact pm_and_in _ _ | exact pm_shr_in _ _ | exact pm_or_in _ _ | exact pm_xor_in _ _ | exact pm_shl_in _ _ | exact pm_cmp_in _ _ | exact pm_b8_in _ | (unfold pm_inI; split <;> omega)) (by first | (unfold pm_inI; omega) | exact pm_and_in _ _ | exact pm_shr_in _ _ | exact pm_or_in _ _ | exact pm_xor_in _ _ | exact pm_shl_in _ _ | exact pm_cmp_in _ _ | exact pm_b8_in _ | (unfold pm_inI; split <;> omega)) (fun h => absurd h (show ¬ ((12 : Int) ≤ (10 : Int)) by omega)) (fun _ => ?_)
    refine g_aload_n lk_260_17 rfl ?_
    refine g_getfield lk_260_18 rfl (lay18.on (by decide) rfl) (v := ((155 : Nat) : Int)) (lay18.rf rfl) ?_
    refine g_iload_n lk_260_21 rfl ?_
    refine g_iconst lk_260_22 ?_
    refine g_isub lk_260_23 ?_
    refine g_top (z := (10 - 1)) (z' := 9) (by omega) ?_
    refine g_aload_n lk_260_24 rfl ?_
    refine g_getfield lk_260_25 rfl (lay18.on (by decide) rfl) (v := ((155 : Nat) : Int)) (lay18.rf rfl) ?_
    refine g_iload_n lk_260_28 rfl ?_
    refine m_iaload (u := [(155, pm_upd (pm_upd (pm_upd (pm_upd (pm_upd (pm_upd (pm_upd (pm_upd (pm_upd (pm_ct M 155) 0 (pm_ct M 155 1)) 1 (pm_ct M 155 2)) 2 (pm_ct M 155 3)) 3 (pm_ct M 155 4)) 4 (pm_ct M 155 5)) 5 (pm_ct M 155 6)) 6 (pm_ct M 155 7)) 7 (pm_ct M 155 8)) 8 (pm_ct M 155 9)), (156, pm_upd (pm_upd (pm_upd (pm_upd (pm_upd (pm_upd (pm_upd (pm_upd (pm_upd (pm_ct M 156) 0 (pm_ct M 156 1)) 1 (pm_ct M 156 2)) 2 (pm_ct M 156 3)) 3 (pm_ct M 156 4)) 4 (pm_ct M 156 5)) 5 (pm_ct M 156 6)) 6 (pm_ct M 156 7)) 7 (pm_ct M 156 8)) 8 (pm_ct M 156 9))]) (M := M) lk_260_29 (lay18.ay (by decide) rfl) (by omega) (j := 10) (by omega) (v := pm_ct M 155 10) rfl ?_
    have lay19 : Lay (Mu [(155, pm_upd (pm_upd (pm_upd (pm_upd (pm_upd (pm_upd (pm_upd (pm_upd (pm_upd (pm_upd (pm_ct M 155) 0 (pm_ct M 155 1)) 1 (pm_ct M 155 2)) 2 (pm_ct M 155 3)) 3 (pm_ct M 155 4)) 4 (pm_ct M 155 5)) 5 (pm_ct M 155 6)) 6 (pm_ct M 155 7)) 7 (pm_ct M 155 8)) 8 (pm_ct M 155 9)) 9 (pm_ct M 155 10)), (156, pm_upd (pm_upd (pm_upd (pm_upd (pm_upd (pm_upd (pm_upd (pm_upd (pm_upd (pm_ct M 156) 0 (pm_ct M 156 1)) 1 (pm_ct M 156 2)) 2 (pm_ct M 156 3)) 3 (pm_ct M 156 4)) 4 (pm_ct M 156 5)) 5 (pm_ct M 156 6)) 6 (pm_ct M 156 7)) 7 (pm_ct M 156 8)) 8 (pm_ct M 156 9))] M) := lay18.muA (l := [(155, pm_upd (pm_upd (pm_upd (pm_upd (pm_upd (pm_upd (pm_upd (pm_upd (pm_upd (pm_ct M 155) 0 (pm_ct M 155 1)) 1 (pm_ct M 155 2)) 2 (pm_ct M 155 3)) 3 (pm_ct M 155 4)) 4 (pm_ct M 155 5)) 5 (pm_ct M 155 6)) 6 (pm_ct M 155 7)) 7 (pm_ct M 155 8)) 8 (pm_ct M 155 9)), (156, pm_upd (pm_upd (pm_upd (pm_upd (pm_upd (pm_upd (pm_upd (pm_upd (pm_upd (pm_ct M 156) 0 (pm_ct M 156 1)) 1 (pm_ct M 156 2)) 2 (pm_ct M 156 3)) 3 (pm_ct M 156 4)) 4 (pm_ct M 156 5)) 5 (pm_ct M 156 6)) 6 (pm_ct M 156 7)) 7 (pm_ct M 156 8)) 8 (pm_ct M 156 9))]) (a := 155) (f := pm_upd (pm_upd (pm_upd (pm_upd (pm_upd (pm_upd (pm_upd (pm_upd (pm_upd (pm_upd (pm_ct M 155) 0 (pm_ct M 155 1)) 1 (pm_ct M 155 2)) 2 (pm_ct M 155 3)) 3 (pm_ct M 155 4)) 4 (pm_ct M 155 5)) 5 (pm_ct M 155 6)) 6 (pm_ct M 155 7)) 7 (pm_ct M 155 8)) 8 (pm_ct M 155 9)) 9 (pm_ct M 155 10)) rfl rfl
    refine m_iastore (u := [(155, pm_upd (pm_upd (pm_upd (pm_upd (pm_upd (pm_upd (pm_upd (pm_upd (pm_upd (pm_ct M 155) 0 (pm_ct M 155 1)) 1 (pm_ct M 155 2)) 2 (pm_ct M 155 3)) 3 (pm_ct M 155 4)) 4 (pm_ct M 155 5)) 5 (pm_ct M 155 6)) 6 (pm_ct M 155 7)) 7 (pm_ct M 155 8)) 8 (pm_ct M 155 9)), (156, pm_upd (pm_upd (pm_upd (pm_upd (pm_upd (pm_upd (pm_upd (pm_upd (pm_upd (pm_ct M 156) 0 (pm_ct M 156 1)) 1 (pm_ct M 156 2)) 2 (pm_ct M 156 3)) 3 (pm_ct M 156 4)) 4 (pm_ct M 156 5)) 5 (pm_ct M 156 6)) 6 (pm_ct M 156 7)) 7 (pm_ct M 156 8)) 8 (pm_ct M 156 9))]) (u' := [(155, pm_upd (pm_upd (pm_upd (pm_upd (pm_upd (pm_upd (pm_upd (pm_upd (pm_upd (pm_upd (pm_ct M 155) 0 (pm_ct M 155 1)) 1 (pm_ct M 155 2)) 2 (pm_ct M 155 3)) 3 (pm_ct M 155 4)) 4 (pm_ct M 155 5)) 5 (pm_ct M 155 6)) 6 (pm_ct M 155 7)) 7 (pm_ct M 155 8)) 8 (pm_ct M 155 9)) 9 (pm_ct M 155 10)), (156, pm_upd (pm_upd (pm_upd (pm_upd (pm_upd (pm_upd (pm_upd (pm_upd (pm_upd (pm_ct M 156) 0 (pm_ct M 156 1)) 1 (pm_ct M 156 2)) 2 (pm_ct M 156 3)) 3 (pm_ct M 156 4)) 4 (pm_ct M 156 5)) 5 (pm_ct M 156 6)) 6 (pm_ct M 156 7)) 7 (pm_ct M 156 8)) 8 (pm_ct M 156 9))]) (M := M) lk_260_30 (lay18.ay (by decide) rfl) (by omega) (j := 9) (by omega) rfl ?_
    refine g_aload_n lk_260_31 rfl ?_
    refine g_getfield lk_260_32 rfl (lay19.on (by decide) rfl) (v := ((156 : Nat) : Int)) (lay19.rf rfl) ?_
    refine g_iload_n lk_260_35 rfl ?_
    refine g_iconst lk_260_36 ?_
    refine g_isub lk_260_37 ?_
    refine g_top (z := (10 - 1)) (z' := 9) (by omega) ?_
    refine g_aload_n lk_260_38 rfl ?_
    refine g_getfield lk_260_39 rfl (lay19.on (by decide) rfl) (v := ((156 : Nat) : Int)) (lay19.rf rfl) ?_
    refine g_iload_n lk_260_42 rfl ?_
    refine m_iaload (u := [(155, pm_upd (pm_upd (pm_upd (pm_upd (pm_upd (pm_upd (pm_upd (pm_upd (pm_upd (pm_upd (pm_ct M 155) 0 (pm_ct M 155 1)) 1 (pm_ct M 155 2)) 2 (pm_ct M 155 3)) 3 (pm_ct M 155 4)) 4 (pm_ct M 155 5)) 5 (pm_ct M 155 6)) 6 (pm_ct M 155 7)) 7 (pm_ct M 155 8)) 8 (pm_ct M 155 9)) 9 (pm_ct M 155 10)), (156, pm_upd (pm_upd (pm_upd (pm_upd (pm_upd (pm_upd (pm_upd (pm_upd (pm_upd (pm_ct M 156) 0 (pm_ct M 156 1)) 1 (pm_ct M 156 2)) 2 (pm_ct M 156 3)) 3 (pm_ct M 156 4)) 4 (pm_ct M 156 5)) 5 (pm_ct M 156 6)) 6 (pm_ct M 156 7)) 7 (pm_ct M 156 8)) 8 (pm_ct M 156 9))]) (M := M) lk_260_43 (lay19.ay (by decide) rfl) (by omega) (j := 10) (by omega) (v := pm_ct M 156 10) rfl ?_
    have lay20 : Lay (Mu [(155, pm_upd (pm_upd (pm_upd (pm_upd (pm_upd (pm_upd (pm_upd (pm_upd (pm_upd (pm_upd (pm_ct M 155) 0 (pm_ct M 155 1)) 1 (pm_ct M 155 2)) 2 (pm_ct M 155 3)) 3 (pm_ct M 155 4)) 4 (pm_ct M 155 5)) 5 (pm_ct M 155 6)) 6 (pm_ct M 155 7)) 7 (pm_ct M 155 8)) 8 (pm_ct M 155 9)) 9 (pm_ct M 155 10)), (156, pm_upd (pm_upd (pm_upd (pm_upd (pm_upd (pm_upd (pm_upd (pm_upd (pm_upd (pm_upd (pm_ct M 156) 0 (pm_ct M 156 1)) 1 (pm_ct M 156 2)) 2 (pm_ct M 156 3)) 3 (pm_ct M 156 4)) 4 (pm_ct M 156 5)) 5 (pm_ct M 156 6)) 6 (pm_ct M 156 7)) 7 (pm_ct M 156 8)) 8 (pm_ct M 156 9)) 9 (pm_ct M 156 10))] M) := lay19.muA (l := [(155, pm_upd (pm_upd (pm_upd (pm_upd (pm_upd (pm_upd (pm_upd (pm_upd (pm_upd (pm_upd (pm_ct M 155) 0 (pm_ct M 155 1)) 1 (pm_ct M 155 2)) 2 (pm_ct M 155 3)) 3 (pm_ct M 155 4)) 4 (pm_ct M 155 5)) 5 (pm_ct M 155 6)) 6 (pm_ct M 155 7)) 7 (pm_ct M 155 8)) 8 (pm_ct M 155 9)) 9 (pm_ct M 155 10)), (156, pm_upd (pm_upd (pm_upd (pm_upd (pm_upd (pm_upd (pm_upd (pm_upd (pm_upd (pm_ct M 156) 0 (pm_ct M 156 1)) 1 (pm_ct M 156 2)) 2 (pm_ct M 156 3)) 3 (pm_ct M 156 4)) 4 (pm_ct M 156 5)) 5 (pm_ct M 156 6)) 6 (pm_ct M 156 7)) 7 (pm_ct M 156 8)) 8 (pm_ct M 156 9))]) (a := 156) (f := pm_upd (pm_upd (pm_upd (pm_upd (pm_upd (pm_upd (pm_upd (pm_upd (pm_upd (pm_upd (pm_ct M 156) 0 (pm_ct M 156 1)) 1 (pm_ct M 156 2)) 2 (pm_ct M 156 3)) 3 (pm_ct M 156 4)) 4 (pm_ct M 156 5)) 5 (pm_ct M 156 6)) 6 (pm_ct M 156 7)) 7 (pm_ct M 156 8)) 8 (pm_ct M 156 9)) 9 (pm_ct M 156 10)) rfl rfl
    refine m_iastore (u := [(155, pm_upd (pm_upd (pm_upd (pm_upd (pm_upd (pm_upd (pm_upd (pm_upd (pm_upd (pm_upd (pm_ct M 155) 0 (pm_ct M 155 1)) 1 (pm_ct M 155 2)) 2 (pm_ct M 155 3)) 3 (pm_ct M 155 4)) 4 (pm_ct M 155 5)) 5 (pm_ct M 155 6)) 6 (pm_ct M 155 7)) 7 (pm_ct M 155 8)) 8 (pm_ct M 155 9)) 9 (pm_ct M 155 10)), (156, pm_upd (pm_upd (pm_upd (pm_upd (pm_upd (pm_upd (pm_upd (pm_upd (pm_upd (pm_ct M 156) 0 (pm_ct M 156 1)) 1 (pm_ct M 156 2)) 2 (pm_ct M 156 3)) 3 (pm_ct M 156 4)) 4 (pm_ct M 156 5)) 5 (pm_ct M 156 6)) 6 (pm_ct M 156 7)) 7 (pm_ct M 156 8)) 8 (pm_ct M 156 9))]) (u' := [(155, pm_upd (pm_upd (pm_upd (pm_upd (pm_upd (pm_upd (pm_upd (pm_upd (pm_upd (pm_upd (pm_ct M 155) 0 (pm_ct M 155 1)) 1 (pm_ct M 155 2)) 2 (pm_ct M 155 3)) 3 (pm_ct M 155 4)) 4 (pm_ct M 155 5)) 5 (pm_ct M 155 6)) 6 (pm_ct M 155 7)) 7 (pm_ct M 155 8)) 8 (pm_ct M 155 9)) 9 (pm_ct M 155 10)), (156, pm_upd (pm_upd (pm_upd (pm_upd (pm_upd (pm_upd (pm_upd (pm_upd (pm_upd (pm_upd (pm_ct M 156) 0 (pm_ct M 156 1)) 1 (pm_ct M 156 2)) 2 (pm_ct M 156 3)) 3 (pm_ct M 156 4)) 4 (pm_ct M 156 5)) 5 (pm_ct M 156 6)) 6 (pm_ct M 156 7)) 7 (pm_ct M 156 8)) 8 (pm_ct M 156 9)) 9 (pm_ct M 156 10))]) (M := M) lk_260_44 (lay19.ay (by decide) rfl) (by omega) (j := 9) (by omega) rfl ?_
    refine g_iinc (ls' := [(2, ((116 : Nat) : Int)), (0, z1), (0, z2), (0, 11)]) lk_260_45 rfl rfl rfl ?_
    refine g_goto (t := 11) lk_260_48 rfl ?_
    refine g_iload_n lk_260_11 rfl ?_
    refine g_bipush lk_260_12 ?_
    refine g_icmp (t := 51) lk_260_14 rfl (by first | (unfold pm_inI; omega) | exact pm_and_in _ _ | exact pm_shr_in _ _ | exact pm_or_in _ _ | exact pm_xor_in _ _ | exact pm_shl_in _ _ | exact pm_cmp_in _ _ | exact pm_b8_in _ | (unfold pm_inI; split <;> omega)) (by first | (unfold pm_inI; omega) | exact pm_and_in _ _ | exact pm_shr_in _ _ | exact pm_or_in _ _ | exact pm_xor_in _ _ | exact pm_shl_in _ _ | exact pm_cmp_in _ _ | exact pm_b8_in _ | (unfold pm_inI; split <;> omega)) (fun h => absurd h (show ¬ ((12 : Int) ≤ (11 : Int)) by omega)) (fun _ => ?_)
    refine g_aload_n lk_260_17 rfl ?_
    refine g_getfield lk_260_18 rfl (lay20.on (by decide) rfl) (v := ((155 : Nat) : Int)) (lay20.rf rfl) ?_
    refine g_iload_n lk_260_21 rfl ?_
    refine g_iconst lk_260_22 ?_
    refine g_isub lk_260_23 ?_
    refine g_top (z := (11 - 1)) (z' := 10) (by omega) ?_
    refine g_aload_n lk_260_24 rfl ?_
    refine g_getfield lk_260_25 rfl (lay20.on (by decide) rfl) (v := ((155 : Nat) : Int)) (lay20.rf rfl) ?_
    refine g_iload_n lk_260_28 rfl ?_
    refine m_iaload (u := [(155, pm_upd (pm_upd (pm_upd (pm_upd (pm_upd (pm_upd (pm_upd (pm_upd (pm_upd (pm_upd (pm_ct M 155) 0 (pm_ct M 155 1)) 1 (pm_ct M 155 2)) 2 (pm_ct M 155 3)) 3 (pm_ct M 155 4)) 4 (pm_ct M 155 5)) 5 (pm_ct M 155 6)) 6 (pm_ct M 155 7)) 7 (pm_ct M 155 8)) 8 (pm_ct M 155 9)) 9 (pm_ct M 155 10)), (156, pm_upd (pm_upd (pm_upd (pm_upd (pm_upd (pm_upd (pm_upd (pm_upd (pm_upd (pm_upd (pm_ct M 156) 0 (pm_ct M 156 1)) 1 (pm_ct M 156 2)) 2 (pm_ct M 156 3)) 3 (pm_ct M 156 4)) 4 (pm_ct M 156 5)) 5 (pm_ct M 156 6)) 6 (pm_ct M 156 7)) 7 (pm_ct M 156 8)) 8 (pm_ct M 156 9)) 9 (pm_ct M 156 10))]) (M := M) lk_260_29 (lay20.ay (by decide) rfl) (by omega) (j := 11) (by omega) (v := pm_ct M 155 11) rfl ?_
    have lay21 : Lay (Mu [(155, pm_upd (pm_upd (pm_upd (pm_upd (pm_upd (pm_upd (pm_upd (pm_upd (pm_upd (pm_upd (pm_upd (pm_ct M 155) 0 (pm_ct M 155 1)) 1 (pm_ct M 155 2)) 2 (pm_ct M 155 3)) 3 (pm_ct M 155 4)) 4 (pm_ct M 155 5)) 5 (pm_ct M 155 6)) 6 (pm_ct M 155 7)) 7 (pm_ct M 155 8)) 8 (pm_ct M 155 9)) 9 (pm_ct M 155 10)) 10 (pm_ct M 155 11)), (156, pm_upd (pm_upd (pm_upd (pm_upd (pm_upd (pm_upd (pm_upd (pm_upd (pm_upd (pm_upd (pm_ct M 156) 0 (pm_ct M 156 1)) 1 (pm_ct M 156 2)) 2 (pm_ct M 156 3)) 3 (pm_ct M 156 4)) 4 (pm_ct M 156 5)) 5 (pm_ct M 156 6)) 6 (pm_ct M 156 7)) 7 (pm_ct M 156 8)) 8 (pm_ct M 156 9)) 9 (pm_ct M 156 10))] M) := lay20.muA (l := [(155, pm_upd (pm_upd (pm_upd (pm_upd (pm_upd (pm_upd (pm_upd (pm_upd (pm_upd (pm_upd (pm_ct M 155) 0 (pm_ct M 155 1)) 1 (pm_ct M 155 2)) 2 (pm_ct M 155 3)) 3 (pm_ct M 155 4)) 4 (pm_ct M 155 5)) 5 (pm_ct M 155 6)) 6 (pm_ct M 155 7)) 7 (pm_ct M 155 8)) 8 (pm_ct M 155 9)) 9 (pm_ct M 155 10)), (156, pm_upd (pm_upd (pm_upd (pm_upd (pm_upd (pm_upd (pm_upd (pm_upd (pm_upd (pm_upd (pm_ct M 156) 0 (pm_ct M 156 1)) 1 (pm_ct M 156 2)) 2 (pm_ct M 156 3)) 3 (pm_ct M 156 4)) 4 (pm_ct M 156 5)) 5 (pm_ct M 156 6)) 6 (pm_ct M 156 7)) 7 (pm_ct M 156 8)) 8 (pm_ct M 156 9)) 9 (pm_ct M 156 10))]) (a := 155) (f := pm_upd (pm_upd (pm_upd (pm_upd (pm_upd (pm_upd (pm_upd (pm_upd (pm_upd (pm_upd (pm_upd (pm_ct M 155) 0 (pm_ct M 155 1)) 1 (pm_ct M 155 2)) 2 (pm_ct M 155 3)) 3 (pm_ct M 155 4)) 4 (pm_ct M 155 5)) 5 (pm_ct M 155 6)) 6 (pm_ct M 155 7)) 7 (pm_ct M 155 8)) 8 (pm_ct M 155 9)) 9 (pm_ct M 155 10)) 10 (pm_ct M 155 11)) rfl rfl
    refine m_iastore (u := [(155, pm_upd (pm_upd (pm_upd (pm_upd (pm_upd (pm_upd (pm_upd (pm_upd (pm_upd (pm_upd (pm_ct M 155) 0 (pm_ct M 155 1)) 1 (pm_ct M 155 2)) 2 (pm_ct M 155 3)) 3 (pm_ct M 155 4)) 4 (pm_ct M 155 5)) 5 (pm_ct M 155 6)) 6 (pm_ct M 155 7)) 7 (pm_ct M 155 8)) 8 (pm_ct M 155 9)) 9 (pm_ct M 155 10)), (156, pm_upd (pm_upd (pm_upd (pm_upd (pm_upd (pm_upd (pm_upd (pm_upd (pm_upd (pm_upd (pm_ct M 156) 0 (pm_ct M 156 1)) 1 (pm_ct M 156 2)) 2 (pm_ct M 156 3)) 3 (pm_ct M 156 4)) 4 (pm_ct M 156 5)) 5 (pm_ct M 156 6)) 6 (pm_ct M 156 7)) 7 (pm_ct M 156 8)) 8 (pm_ct M 156 9)) 9 (pm_ct M 156 10))]) (u' := [(155, pm_upd (pm_upd (pm_upd (pm_upd (pm_upd (pm_upd (pm_upd (pm_upd (pm_upd (pm_upd (pm_upd (pm_ct M 155) 0 (pm_ct M 155 1)) 1 (pm_ct M 155 2)) 2 (pm_ct M 155 3)) 3 (pm_ct M 155 4)) 4 (pm_ct M 155 5)) 5 (pm_ct M 155 6)) 6 (pm_ct M 155 7)) 7 (pm_ct M 155 8)) 8 (pm_ct M 155 9)) 9 (pm_ct M 155 10)) 10 (pm_ct M 155 11)), (156, pm_upd (pm_upd (pm_upd (pm_upd (pm_upd (pm_upd (pm_upd (pm_upd (pm_upd (pm_upd (pm_ct M 156) 0 (pm_ct M 156 1)) 1 (pm_ct M 156 2)) 2 (pm_ct M 156 3)) 3 (pm_ct M 156 4)) 4 (pm_ct M 156 5)) 5 (pm_ct M 156 6)) 6 (pm_ct M 156 7)) 7 (pm_ct M 156 8)) 8 (pm_ct M 156 9)) 9 (pm_ct M 156 10))]) (M := M) lk_260_30 (lay20.ay (by decide) rfl) (by omega) (j := 10) (by omega) rfl ?_
    refine g_aload_n lk_260_31 rfl ?_
    refine g_getfield lk_260_32 rfl (lay21.on (by decide) rfl) (v := ((156 : Nat) : Int)) (lay21.rf rfl) ?_
    refine g_iload_n lk_260_35 rfl ?_
    refine g_iconst lk_260_36 ?_
    refine g_isub lk_260_37 ?_
    refine g_top (z := (11 - 1)) (z' := 10) (by omega) ?_
    refine g_aload_n lk_260_38 rfl ?_
    refine g_getfield lk_260_39 rfl (lay21.on (by decide) rfl) (v := ((156 : Nat) : Int)) (lay21.rf rfl) ?_
    refine g_iload_n lk_260_42 rfl ?_
    refine m_iaload (u := [(155, pm_upd (pm_upd (pm_upd (pm_upd (pm_upd (pm_upd (pm_upd (pm_upd (pm_upd (pm_upd (pm_upd (pm_ct M 155) 0 (pm_ct M 155 1)) 1 (pm_ct M 155 2)) 2 (pm_ct M 155 3)) 3 (pm_ct M 155 4)) 4 (pm_ct M 155 5)) 5 (pm_ct M 155 6)) 6 (pm_ct M 155 7)) 7 (pm_ct M 155 8)) 8 (pm_ct M 155 9)) 9 (pm_ct M 155 10)) 10 (pm_ct M 155 11)), (156, pm_upd (pm_upd (pm_upd (pm_upd (pm_upd (pm_upd (pm_upd (pm_upd (pm_upd (pm_upd (pm_ct M 156) 0 (pm_ct M 156 1)) 1 (pm_ct M 156 2)) 2 (pm_ct M 156 3)) 3 (pm_ct M 156 4)) 4 (pm_ct M 156 5)) 5 (pm_ct M 156 6)) 6 (pm_ct M 156 7)) 7 (pm_ct M 156 8)) 8 (pm_ct M 156 9)) 9 (pm_ct M 156 10))]) (M := M) lk_260_43 (lay21.ay (by decide) rfl) (by omega) (j := 11) (by omega) (v := pm_ct M 156 11) rfl ?_
    have lay22 : Lay (Mu [(155, pm_upd (pm_upd (pm_upd (pm_upd (pm_upd (pm_upd (pm_upd (pm_upd (pm_upd (pm_upd (pm_upd (pm_ct M 155) 0 (pm_ct M 155 1)) 1 (pm_ct M 155 2)) 2 (pm_ct M 155 3)) 3 (pm_ct M 155 4)) 4 (pm_ct M 155 5)) 5 (pm_ct M 155 6)) 6 (pm_ct M 155 7)) 7 (pm_ct M 155 8)) 8 (pm_ct M 155 9)) 9 (pm_ct M 155 10)) 10 (pm_ct M 155 11)), (156, pm_upd (pm_upd (pm_upd (pm_upd (pm_upd (pm_upd (pm_upd (pm_upd (pm_upd (pm_upd (pm_upd (pm_ct M 156) 0 (pm_ct M 156 1)) 1 (pm_ct M 156 2)) 2 (pm_ct M 156 3)) 3 (pm_ct M 156 4)) 4 (pm_ct M 156 5)) 5 (pm_ct M 156 6)) 6 (pm_ct M 156 7)) 7 (pm_ct M 156 8)) 8 (pm_ct M 156 9)) 9 (pm_ct M 156 10)) 10 (pm_ct M 156 11))] M) := lay21.muA (l := [(155, pm_upd (pm_upd (pm_upd (pm_upd (pm_upd (pm_upd (pm_upd (pm_upd (pm_upd (pm_upd (pm_upd (pm_ct M 155) 0 (pm_ct M 155 1)) 1 (pm_ct M 155 2)) 2 (pm_ct M 155 3)) 3 (pm_ct M 155 4)) 4 (pm_ct M 155 5)) 5 (pm_ct M 155 6)) 6 (pm_ct M 155 7)) 7 (pm_ct M 155 8)) 8 (pm_ct M 155 9)) 9 (pm_ct M 155 10)) 10 (pm_ct M 155 11)), (156, pm_upd (pm_upd (pm_upd (pm_upd (pm_upd (pm_upd (pm_upd (pm_upd (pm_upd (pm_upd (pm_ct M 156) 0 (pm_ct M 156 1)) 1 (pm_ct M 156 2)) 2 (pm_ct M 156 3)) 3 (pm_ct M 156 4)) 4 (pm_ct M 156 5)) 5 (pm_ct M 156 6)) 6 (pm_ct M 156 7)) 7 (pm_ct M 156 8)) 8 (pm_ct M 156 9)) 9 (pm_ct M 156 10))]) (a := 156) (f := pm_upd (pm_upd (pm_upd (pm_upd (pm_upd (pm_upd (pm_upd (pm_upd (pm_upd (pm_upd (pm_upd (pm_ct M 156) 0 (pm_ct M 156 1)) 1 (pm_ct M 156 2)) 2 (pm_ct M 156 3)) 3 (pm_ct M 156 4)) 4 (pm_ct M 156 5)) 5 (pm_ct M 156 6)) 6 (pm_ct M 156 7)) 7 (pm_ct M 156 8)) 8 (pm_ct M 156 9)) 9 (pm_ct M 156 10)) 10 (pm_ct M 156 11)) rfl rfl
    refine m_iastore (u := [(155, pm_upd (pm_upd (pm_upd (pm_upd (pm_upd (pm_upd (pm_upd (pm_upd (pm_upd (pm_upd (pm_upd (pm_ct M 155) 0 (pm_ct M 155 1)) 1 (pm_ct M 155 2)) 2 (pm_ct M 155 3)) 3 (pm_ct M 155 4)) 4 (pm_ct M 155 5)) 5 (pm_ct M 155 6)) 6 (pm_ct M 155 7)) 7 (pm_ct M 155 8)) 8 (pm_ct M 155 9)) 9 (pm_ct M 155 10)) 10 (pm_ct M 155 11)), (156, pm_upd (pm_upd (pm_upd (pm_upd (pm_upd (pm_upd (pm_upd (pm_upd (pm_upd (pm_upd (pm_ct M 156) 0 (pm_ct M 156 1)) 1 (pm_ct M 156 2)) 2 (pm_ct M 156 3)) 3 (pm_ct M 156 4)) 4 (pm_ct M 156 5)) 5 (pm_ct M 156 6)) 6 (pm_ct M 156 7)) 7 (pm_ct M 156 8)) 8 (pm_ct M 156 9)) 9 (pm_ct M 156 10))]) (u' := [(155, pm_upd (pm_upd (pm_upd (pm_upd (pm_upd (pm_upd (pm_upd (pm_upd (pm_upd (pm_upd (pm_upd (pm_ct M 155) 0 (pm_ct M 155 1)) 1 (pm_ct M 155 2)) 2 (pm_ct M 155 3)) 3 (pm_ct M 155 4)) 4 (pm_ct M 155 5)) 5 (pm_ct M 155 6)) 6 (pm_ct M 155 7)) 7 (pm_ct M 155 8)) 8 (pm_ct M 155 9)) 9 (pm_ct M 155 10)) 10 (pm_ct M 155 11)), (156, pm_upd (pm_upd (pm_upd (pm_upd (pm_upd (pm_upd (pm_upd (pm_upd (pm_upd (pm_upd (pm_upd (pm_ct M 156) 0 (pm_ct M 156 1)) 1 (pm_ct M 156 2)) 2 (pm_ct M 156 3)) 3 (pm_ct M 156 4)) 4 (pm_ct M 156 5)) 5 (pm_ct M 156 6)) 6 (pm_ct M 156 7)) 7 (pm_ct M 156 8)) 8 (pm_ct M 156 9)) 9 (pm_ct M 156 10)) 10 (pm_ct M 156 11))]) (M := M) lk_260_44 (lay21.ay (by decide) rfl) (by omega) (j := 10) (by omega) rfl ?_
    refine g_iinc (ls' := [(2, ((116 : Nat) : Int)), (0, z1), (0, z2), (0, 12)]) lk_260_45 rfl rfl rfl ?_
    refine g_goto (t := 11) lk_260_48 rfl ?_
    refine g_iload_n lk_260_11 rfl ?_
    refine g_bipush lk_260_12 ?_
    refine g_icmp (t := 51) lk_260_14 rfl (by first | (unfold pm_inI; omega) | exact pm_and_in _ _ | exact pm_shr_in _ _ | exact pm_or_in _ _ | exact pm_xor_in _ _ | exact pm_shl_in _ _ | exact pm_cmp_in _ _ | exact pm_b8_in _ | (unfold pm_inI; split <;> omega)) (by first | (unfold pm_inI; omega) | exact pm_and_in _ _ | exact pm_shr_in _ _ | exact pm_or_in _ _ | exact pm_xor_in _ _ | exact pm_shl_in _ _ | exact pm_cmp_in _ _ | exact pm_b8_in _ | (unfold pm_inI; split <;> omega)) (fun _ => ?_) (fun h => absurd (show (12 : Int) ≤ (12 : Int) by omega) h)
    refine g_aload_n lk_260_51 rfl ?_
    refine g_dup lk_260_52 rfl ?_
    refine m_getfield (u := [(155, pm_upd (pm_upd (pm_upd (pm_upd (pm_upd (pm_upd (pm_upd (pm_upd (pm_upd (pm_upd (pm_upd (pm_ct M 155) 0 (pm_ct M 155 1)) 1 (pm_ct M 155 2)) 2 (pm_ct M 155 3)) 3 (pm_ct M 155 4)) 4 (pm_ct M 155 5)) 5 (pm_ct M 155 6)) 6 (pm_ct M 155 7)) 7 (pm_ct M 155 8)) 8 (pm_ct M 155 9)) 9 (pm_ct M 155 10)) 10 (pm_ct M 155 11)), (156, pm_upd (pm_upd (pm_upd (pm_upd (pm_upd (pm_upd (pm_upd (pm_upd (pm_upd (pm_upd (pm_upd (pm_ct M 156) 0 (pm_ct M 156 1)) 1 (pm_ct M 156 2)) 2 (pm_ct M 156 3)) 3 (pm_ct M 156 4)) 4 (pm_ct M 156 5)) 5 (pm_ct M 156 6)) 6 (pm_ct M 156 7)) 7 (pm_ct M 156 8)) 8 (pm_ct M 156 9)) 9 (pm_ct M 156 10)) 10 (pm_ct M 156 11))]) (M := M) lk_260_53 rfl (lay22.on (by decide) rfl) (v := 12) h12' ?_
    refine g_iconst lk_260_56 ?_
    refine g_isub lk_260_57 ?_
    refine g_top (z := (12 - 1)) (z' := 11) (by omega) ?_
    have lay23 : Lay (Mu [(155, pm_upd (pm_upd (pm_upd (pm_upd (pm_upd (pm_upd (pm_upd (pm_upd (pm_upd (pm_upd (pm_upd (pm_ct M 155) 0 (pm_ct M 155 1)) 1 (pm_ct M 155 2)) 2 (pm_ct M 155 3)) 3 (pm_ct M 155 4)) 4 (pm_ct M 155 5)) 5 (pm_ct M 155 6)) 6 (pm_ct M 155 7)) 7 (pm_ct M 155 8)) 8 (pm_ct M 155 9)) 9 (pm_ct M 155 10)) 10 (pm_ct M 155 11)), (156, pm_upd (pm_upd (pm_upd (pm_upd (pm_upd (pm_upd (pm_upd (pm_upd (pm_upd (pm_upd (pm_upd (pm_ct M 156) 0 (pm_ct M 156 1)) 1 (pm_ct M 156 2)) 2 (pm_ct M 156 3)) 3 (pm_ct M 156 4)) 4 (pm_ct M 156 5)) 5 (pm_ct M 156 6)) 6 (pm_ct M 156 7)) 7 (pm_ct M 156 8)) 8 (pm_ct M 156 9)) 9 (pm_ct M 156 10)) 10 (pm_ct M 156 11)), (116, pm_upd (pm_ct M 116) 70 11)] M) := lay22.muF (l := [(155, pm_upd (pm_upd (pm_upd (pm_upd (pm_upd (pm_upd (pm_upd (pm_upd (pm_upd (pm_upd (pm_upd (pm_ct M 155) 0 (pm_ct M 155 1)) 1 (pm_ct M 155 2)) 2 (pm_ct M 155 3)) 3 (pm_ct M 155 4)) 4 (pm_ct M 155 5)) 5 (pm_ct M 155 6)) 6 (pm_ct M 155 7)) 7 (pm_ct M 155 8)) 8 (pm_ct M 155 9)) 9 (pm_ct M 155 10)) 10 (pm_ct M 155 11)), (156, pm_upd (pm_upd (pm_upd (pm_upd (pm_upd (pm_upd (pm_upd (pm_upd (pm_upd (pm_upd (pm_upd (pm_ct M 156) 0 (pm_ct M 156 1)) 1 (pm_ct M 156 2)) 2 (pm_ct M 156 3)) 3 (pm_ct M 156 4)) 4 (pm_ct M 156 5)) 5 (pm_ct M 156 6)) 6 (pm_ct M 156 7)) 7 (pm_ct M 156 8)) 8 (pm_ct M 156 9)) 9 (pm_ct M 156 10)) 10 (pm_ct M 156 11))]) (a := 116) (k := 70) (z := 11) rfl rfl
    refine m_putfield (u := [(155, pm_upd (pm_upd (pm_upd (pm_upd (pm_upd (pm_upd (pm_upd (pm_upd (pm_upd (pm_upd (pm_upd (pm_ct M 155) 0 (pm_ct M 155 1)) 1 (pm_ct M 155 2)) 2 (pm_ct M 155 3)) 3 (pm_ct M 155 4)) 4 (pm_ct M 155 5)) 5 (pm_ct M 155 6)) 6 (pm_ct M 155 7)) 7 (pm_ct M 155 8)) 8 (pm_ct M 155 9)) 9 (pm_ct M 155 10)) 10 (pm_ct M 155 11)), (156, pm_upd (pm_upd (pm_upd (pm_upd (pm_upd (pm_upd (pm_upd (pm_upd (pm_upd (pm_upd (pm_upd (pm_ct M 156) 0 (pm_ct M 156 1)) 1 (pm_ct M 156 2)) 2 (pm_ct M 156 3)) 3 (pm_ct M 156 4)) 4 (pm_ct M 156 5)) 5 (pm_ct M 156 6)) 6 (pm_ct M 156 7)) 7 (pm_ct M 156 8)) 8 (pm_ct M 156 9)) 9 (pm_ct M 156 10)) 10 (pm_ct M 156 11))]) (u' := [(155, pm_upd (pm_upd (pm_upd (pm_upd (pm_upd (pm_upd (pm_upd (pm_upd (pm_upd (pm_upd (pm_upd (pm_ct M 155) 0 (pm_ct M 155 1)) 1 (pm_ct M 155 2)) 2 (pm_ct M 155 3)) 3 (pm_ct M 155 4)) 4 (pm_ct M 155 5)) 5 (pm_ct M 155 6)) 6 (pm_ct M 155 7)) 7 (pm_ct M 155 8)) 8 (pm_ct M 155 9)) 9 (pm_ct M 155 10)) 10 (pm_ct M 155 11)), (156, pm_upd (pm_upd (pm_upd (pm_upd (pm_upd (pm_upd (pm_upd (pm_upd (pm_upd (pm_upd (pm_upd (pm_ct M 156) 0 (pm_ct M 156 1)) 1 (pm_ct M 156 2)) 2 (pm_ct M 156 3)) 3 (pm_ct M 156 4)) 4 (pm_ct M 156 5)) 5 (pm_ct M 156 6)) 6 (pm_ct M 156 7)) 7 (pm_ct M 156 8)) 8 (pm_ct M 156 9)) 9 (pm_ct M 156 10)) 10 (pm_ct M 156 11)), (116, pm_upd (pm_ct M 116) 70 11)]) (M := M) lk_260_58 rfl (lay22.on (by decide) rfl) (fun h => absurd h (by decide)) rfl ?_
    refine g_aload_n lk_260_61 rfl ?_
    refine g_getfield lk_260_62 rfl (lay23.on (by decide) rfl) (v := ((155 : Nat) : Int)) (lay23.rf rfl) ?_
    refine g_aload_n lk_260_65 rfl ?_
    refine m_getfield (u := [(155, pm_upd (pm_upd (pm_upd (pm_upd (pm_upd (pm_upd (pm_upd (pm_upd (pm_upd (pm_upd (pm_upd (pm_ct M 155) 0 (pm_ct M 155 1)) 1 (pm_ct M 155 2)) 2 (pm_ct M 155 3)) 3 (pm_ct M 155 4)) 4 (pm_ct M 155 5)) 5 (pm_ct M 155 6)) 6 (pm_ct M 155 7)) 7 (pm_ct M 155 8)) 8 (pm_ct M 155 9)) 9 (pm_ct M 155 10)) 10 (pm_ct M 155 11)), (156, pm_upd (pm_upd (pm_upd (pm_upd (pm_upd (pm_upd (pm_upd (pm_upd (pm_upd (pm_upd (pm_upd (pm_ct M 156) 0 (pm_ct M 156 1)) 1 (pm_ct M 156 2)) 2 (pm_ct M 156 3)) 3 (pm_ct M 156 4)) 4 (pm_ct M 156 5)) 5 (pm_ct M 156 6)) 6 (pm_ct M 156 7)) 7 (pm_ct M 156 8)) 8 (pm_ct M 156 9)) 9 (pm_ct M 156 10)) 10 (pm_ct M 156 11)), (116, pm_upd (pm_ct M 116) 70 11)]) (M := M) lk_260_66 rfl (lay23.on (by decide) rfl) (v := 11) rfl ?_
    refine g_iload_n lk_260_69 rfl ?_
    have lay24 : Lay (Mu [(155, pm_upd (pm_upd (pm_upd (pm_upd (pm_upd (pm_upd (pm_upd (pm_upd (pm_upd (pm_upd (pm_upd (pm_upd (pm_ct M 155) 0 (pm_ct M 155 1)) 1 (pm_ct M 155 2)) 2 (pm_ct M 155 3)) 3 (pm_ct M 155 4)) 4 (pm_ct M 155 5)) 5 (pm_ct M 155 6)) 6 (pm_ct M 155 7)) 7 (pm_ct M 155 8)) 8 (pm_ct M 155 9)) 9 (pm_ct M 155 10)) 10 (pm_ct M 155 11)) 11 z1), (156, pm_upd (pm_upd (pm_upd (pm_upd (pm_upd (pm_upd (pm_upd (pm_upd (pm_upd (pm_upd (pm_upd (pm_ct M 156) 0 (pm_ct M 156 1)) 1 (pm_ct M 156 2)) 2 (pm_ct M 156 3)) 3 (pm_ct M 156 4)) 4 (pm_ct M 156 5)) 5 (pm_ct M 156 6)) 6 (pm_ct M 156 7)) 7 (pm_ct M 156 8)) 8 (pm_ct M 156 9)) 9 (pm_ct M 156 10)) 10 (pm_ct M 156 11)), (116, pm_upd (pm_ct M 116) 70 11)] M) := lay23.muA (l := [(155, pm_upd (pm_upd (pm_upd (pm_upd (pm_upd (pm_upd (pm_upd (pm_upd (pm_upd (pm_upd (pm_upd (pm_ct M 155) 0 (pm_ct M 155 1)) 1 (pm_ct M 155 2)) 2 (pm_ct M 155 3)) 3 (pm_ct M 155 4)) 4 (pm_ct M 155 5)) 5 (pm_ct M 155 6)) 6 (pm_ct M 155 7)) 7 (pm_ct M 155 8)) 8 (pm_ct M 155 9)) 9 (pm_ct M 155 10)) 10 (pm_ct M 155 11)), (156, pm_upd (pm_upd (pm_upd (pm_upd (pm_upd (pm_upd (pm_upd (pm_upd (pm_upd (pm_upd (pm_upd (pm_ct M 156) 0 (pm_ct M 156 1)) 1 (pm_ct M 156 2)) 2 (pm_ct M 156 3)) 3 (pm_ct M 156 4)) 4 (pm_ct M 156 5)) 5 (pm_ct M 156 6)) 6 (pm_ct M 156 7)) 7 (pm_ct M 156 8)) 8 (pm_ct M 156 9)) 9 (pm_ct M 156 10)) 10 (pm_ct M 156 11)), (116, pm_upd (pm_ct M 116) 70 11)]) (a := 155) (f := pm_upd (pm_upd (pm_upd (pm_upd (pm_upd (pm_upd (pm_upd (pm_upd (pm_upd (pm_upd (pm_upd (pm_upd (pm_ct M 155) 0 (pm_ct M 155 1)) 1 (pm_ct M 155 2)) 2 (pm_ct M 155 3)) 3 (pm_ct M 155 4)) 4 (pm_ct M 155 5)) 5 (pm_ct M 155 6)) 6 (pm_ct M 155 7)) 7 (pm_ct M 155 8)) 8 (pm_ct M 155 9)) 9 (pm_ct M 155 10)) 10 (pm_ct M 155 11)) 11 z1) rfl rfl
    refine m_iastore (u := [(155, pm_upd (pm_upd (pm_upd (pm_upd (pm_upd (pm_upd (pm_upd (pm_upd (pm_upd (pm_upd (pm_upd (pm_ct M 155) 0 (pm_ct M 155 1)) 1 (pm_ct M 155 2)) 2 (pm_ct M 155 3)) 3 (pm_ct M 155 4)) 4 (pm_ct M 155 5)) 5 (pm_ct M 155 6)) 6 (pm_ct M 155 7)) 7 (pm_ct M 155 8)) 8 (pm_ct M 155 9)) 9 (pm_ct M 155 10)) 10 (pm_ct M 155 11)), (156, pm_upd (pm_upd (pm_upd (pm_upd (pm_upd (pm_upd (pm_upd (pm_upd (pm_upd (pm_upd (pm_upd (pm_ct M 156) 0 (pm_ct M 156 1)) 1 (pm_ct M 156 2)) 2 (pm_ct M 156 3)) 3 (pm_ct M 156 4)) 4 (pm_ct M 156 5)) 5 (pm_ct M 156 6)) 6 (pm_ct M 156 7)) 7 (pm_ct M 156 8)) 8 (pm_ct M 156 9)) 9 (pm_ct M 156 10)) 10 (pm_ct M 156 11)), (116, pm_upd (pm_ct M 116) 70 11)]) (u' := [(155, pm_upd (pm_upd (pm_upd (pm_upd (pm_upd (pm_upd (pm_upd (pm_upd (pm_upd (pm_upd (pm_upd (pm_upd (pm_ct M 155) 0 (pm_ct M 155 1)) 1 (pm_ct M 155 2)) 2 (pm_ct M 155 3)) 3 (pm_ct M 155 4)) 4 (pm_ct M 155 5)) 5 (pm_ct M 155 6)) 6 (pm_ct M 155 7)) 7 (pm_ct M 155 8)) 8 (pm_ct M 155 9)) 9 (pm_ct M 155 10)) 10 (pm_ct M 155 11)) 11 z1), (156, pm_upd (pm_upd (pm_upd (pm_upd (pm_upd (pm_upd (pm_upd (pm_upd (pm_upd (pm_upd (pm_upd (pm_ct M 156) 0 (pm_ct M 156 1)) 1 (pm_ct M 156 2)) 2 (pm_ct M 156 3)) 3 (pm_ct M 156 4)) 4 (pm_ct M 156 5)) 5 (pm_ct M 156 6)) 6 (pm_ct M 156 7)) 7 (pm_ct M 156 8)) 8 (pm_ct M 156 9)) 9 (pm_ct M 156 10)) 10 (pm_ct M 156 11)), (116, pm_upd (pm_ct M 116) 70 11)]) (M := M) lk_260_70 (lay23.ay (by decide) rfl) (by omega) (j := 11) (by omega) rfl ?_
    refine g_aload_n lk_260_71 rfl ?_
    refine g_getfield lk_260_72 rfl (lay24.on (by decide) rfl) (v := ((156 : Nat) : Int)) (lay24.rf rfl) ?_
    refine g_aload_n lk_260_75 rfl ?_
    refine m_getfield (u := [(155, pm_upd (pm_upd (pm_upd (pm_upd (pm_upd (pm_upd (pm_upd (pm_upd (pm_upd (pm_upd (pm_upd (pm_upd (pm_ct M 155) 0 (pm_ct M 155 1)) 1 (pm_ct M 155 2)) 2 (pm_ct M 155 3)) 3 (pm_ct M 155 4)) 4 (pm_ct M 155 5)) 5 (pm_ct M 155 6)) 6 (pm_ct M 155 7)) 7 (pm_ct M 155 8)) 8 (pm_ct M 155 9)) 9 (pm_ct M 155 10)) 10 (pm_ct M 155 11)) 11 z1), (156, pm_upd (pm_upd (pm_upd (pm_upd (pm_upd (pm_upd (pm_upd (pm_upd (pm_upd (pm_upd (pm_upd (pm_ct M 156) 0 (pm_ct M 156 1)) 1 (pm_ct M 156 2)) 2 (pm_ct M 156 3)) 3 (pm_ct M 156 4)) 4 (pm_ct M 156 5)) 5 (pm_ct M 156 6)) 6 (pm_ct M 156 7)) 7 (pm_ct M 156 8)) 8 (pm_ct M 156 9)) 9 (pm_ct M 156 10)) 10 (pm_ct M 156 11)), (116, pm_upd (pm_ct M 116) 70 11)]) (M := M) lk_260_76 rfl (lay24.on (by decide) rfl) (v := 11) rfl ?_
    refine g_iload_n lk_260_79 rfl ?_
    have lay25 : Lay (Mu [(155, pm_upd (pm_upd (pm_upd (pm_upd (pm_upd (pm_upd (pm_upd (pm_upd (pm_upd (pm_upd (pm_upd (pm_upd (pm_ct M 155) 0 (pm_ct M 155 1)) 1 (pm_ct M 155 2)) 2 (pm_ct M 155 3)) 3 (pm_ct M 155 4)) 4 (pm_ct M 155 5)) 5 (pm_ct M 155 6)) 6 (pm_ct M 155 7)) 7 (pm_ct M 155 8)) 8 (pm_ct M 155 9)) 9 (pm_ct M 155 10)) 10 (pm_ct M 155 11)) 11 z1), (156, pm_upd (pm_upd (pm_upd (pm_upd (pm_upd (pm_upd (pm_upd (pm_upd (pm_upd (pm_upd (pm_upd (pm_upd (pm_ct M 156) 0 (pm_ct M 156 1)) 1 (pm_ct M 156 2)) 2 (pm_ct M 156 3)) 3 (pm_ct M 156 4)) 4 (pm_ct M 156 5)) 5 (pm_ct M 156 6)) 6 (pm_ct M 156 7)) 7 (pm_ct M 156 8)) 8 (pm_ct M 156 9)) 9 (pm_ct M 156 10)) 10 (pm_ct M 156 11)) 11 z2), (116, pm_upd (pm_ct M 116) 70 11)] M) := lay24.muA (l := [(155, pm_upd (pm_upd (pm_upd (pm_upd (pm_upd (pm_upd (pm_upd (pm_upd (pm_upd (pm_upd (pm_upd (pm_upd (pm_ct M 155) 0 (pm_ct M 155 1)) 1 (pm_ct M 155 2)) 2 (pm_ct M 155 3)) 3 (pm_ct M 155 4)) 4 (pm_ct M 155 5)) 5 (pm_ct M 155 6)) 6 (pm_ct M 155 7)) 7 (pm_ct M 155 8)) 8 (pm_ct M 155 9)) 9 (pm_ct M 155 10)) 10 (pm_ct M 155 11)) 11 z1), (156, pm_upd (pm_upd (pm_upd (pm_upd (pm_upd (pm_upd (pm_upd (pm_upd (pm_upd (pm_upd (pm_upd (pm_ct M 156) 0 (pm_ct M 156 1)) 1 (pm_ct M 156 2)) 2 (pm_ct M 156 3)) 3 (pm_ct M 156 4)) 4 (pm_ct M 156 5)) 5 (pm_ct M 156 6)) 6 (pm_ct M 156 7)) 7 (pm_ct M 156 8)) 8 (pm_ct M 156 9)) 9 (pm_ct M 156 10)) 10 (pm_ct M 156 11)), (116, pm_upd (pm_ct M 116) 70 11)]) (a := 156) (f := pm_upd (pm_upd (pm_upd (pm_upd (pm_upd (pm_upd (pm_upd (pm_upd (pm_upd (pm_upd (pm_upd (pm_upd (pm_ct M 156) 0 (pm_ct M 156 1)) 1 (pm_ct M 156 2)) 2 (pm_ct M 156 3)) 3 (pm_ct M 156 4)) 4 (pm_ct M 156 5)) 5 (pm_ct M 156 6)) 6 (pm_ct M 156 7)) 7 (pm_ct M 156 8)) 8 (pm_ct M 156 9)) 9 (pm_ct M 156 10)) 10 (pm_ct M 156 11)) 11 z2) rfl rfl
    refine m_iastore (u := [(155, pm_upd (pm_upd (pm_upd (pm_upd (pm_upd (pm_upd (pm_upd (pm_upd (pm_upd (pm_upd (pm_upd (pm_upd (pm_ct M 155) 0 (pm_ct M 155 1)) 1 (pm_ct M 155 2)) 2 (pm_ct M 155 3)) 3 (pm_ct M 155 4)) 4 (pm_ct M 155 5)) 5 (pm_ct M 155 6)) 6 (pm_ct M 155 7)) 7 (pm_ct M 155 8)) 8 (pm_ct M 155 9)) 9 (pm_ct M 155 10)) 10 (pm_ct M 155 11)) 11 z1), (156, pm_upd (pm_upd (pm_upd (pm_upd (pm_upd (pm_upd (pm_upd (pm_upd (pm_upd (pm_upd (pm_upd (pm_ct M 156) 0 (pm_ct M 156 1)) 1 (pm_ct M 156 2)) 2 (pm_ct M 156 3)) 3 (pm_ct M 156 4)) 4 (pm_ct M 156 5)) 5 (pm_ct M 156 6)) 6 (pm_ct M 156 7)) 7 (pm_ct M 156 8)) 8 (pm_ct M 156 9)) 9 (pm_ct M 156 10)) 10 (pm_ct M 156 11)), (116, pm_upd (pm_ct M 116) 70 11)]) (u' := [(155, pm_upd (pm_upd (pm_upd (pm_upd (pm_upd (pm_upd (pm_upd (pm_upd (pm_upd (pm_upd (pm_upd (pm_upd (pm_ct M 155) 0 (pm_ct M 155 1)) 1 (pm_ct M 155 2)) 2 (pm_ct M 155 3)) 3 (pm_ct M 155 4)) 4 (pm_ct M 155 5)) 5 (pm_ct M 155 6)) 6 (pm_ct M 155 7)) 7 (pm_ct M 155 8)) 8 (pm_ct M 155 9)) 9 (pm_ct M 155 10)) 10 (pm_ct M 155 11)) 11 z1), (156, pm_upd (pm_upd (pm_upd (pm_upd (pm_upd (pm_upd (pm_upd (pm_upd (pm_upd (pm_upd (pm_upd (pm_upd (pm_ct M 156) 0 (pm_ct M 156 1)) 1 (pm_ct M 156 2)) 2 (pm_ct M 156 3)) 3 (pm_ct M 156 4)) 4 (pm_ct M 156 5)) 5 (pm_ct M 156 6)) 6 (pm_ct M 156 7)) 7 (pm_ct M 156 8)) 8 (pm_ct M 156 9)) 9 (pm_ct M 156 10)) 10 (pm_ct M 156 11)) 11 z2), (116, pm_upd (pm_ct M 116) 70 11)]) (M := M) lk_260_80 (lay24.ay (by decide) rfl) (by omega) (j := 11) (by omega) rfl ?_
    refine g_aload_n lk_260_81 rfl ?_
    refine g_dup lk_260_82 rfl ?_
    refine m_getfield (u := [(155, pm_upd (pm_upd (pm_upd (pm_upd (pm_upd (pm_upd (pm_upd (pm_upd (pm_upd (pm_upd (pm_upd (pm_upd (pm_ct M 155) 0 (pm_ct M 155 1)) 1 (pm_ct M 155 2)) 2 (pm_ct M 155 3)) 3 (pm_ct M 155 4)) 4 (pm_ct M 155 5)) 5 (pm_ct M 155 6)) 6 (pm_ct M 155 7)) 7 (pm_ct M 155 8)) 8 (pm_ct M 155 9)) 9 (pm_ct M 155 10)) 10 (pm_ct M 155 11)) 11 z1), (156, pm_upd (pm_upd (pm_upd (pm_upd (pm_upd (pm_upd (pm_upd (pm_upd (pm_upd (pm_upd (pm_upd (pm_upd (pm_ct M 156) 0 (pm_ct M 156 1)) 1 (pm_ct M 156 2)) 2 (pm_ct M 156 3)) 3 (pm_ct M 156 4)) 4 (pm_ct M 156 5)) 5 (pm_ct M 156 6)) 6 (pm_ct M 156 7)) 7 (pm_ct M 156 8)) 8 (pm_ct M 156 9)) 9 (pm_ct M 156 10)) 10 (pm_ct M 156 11)) 11 z2), (116, pm_upd (pm_ct M 116) 70 11)]) (M := M) lk_260_83 rfl (lay25.on (by decide) rfl) (v := 11) rfl ?_
    refine g_iconst lk_260_86 ?_
    refine g_iadd lk_260_87 ?_
    refine g_top (z := (11 + 1)) (z' := 12) (by omega) ?_
    have lay26 : Lay (Mu [(155, pm_upd (pm_upd (pm_upd (pm_upd (pm_upd (pm_upd (pm_upd (pm_upd (pm_upd (pm_upd (pm_upd (pm_upd (pm_ct M 155) 0 (pm_ct M 155 1)) 1 (pm_ct M 155 2)) 2 (pm_ct M 155 3)) 3 (pm_ct M 155 4)) 4 (pm_ct M 155 5)) 5 (pm_ct M 155 6)) 6 (pm_ct M 155 7)) 7 (pm_ct M 155 8)) 8 (pm_ct M 155 9)) 9 (pm_ct M 155 10)) 10 (pm_ct M 155 11)) 11 z1), (156, pm_upd (pm_upd (pm_upd (pm_upd (pm_upd (pm_upd (pm_upd (pm_upd (pm_upd (pm_upd (pm_upd (pm_upd (pm_ct M 156) 0 (pm_ct M 156 1)) 1 (pm_ct M 156 2)) 2 (pm_ct M 156 3)) 3 (pm_ct M 156 4)) 4 (pm_ct M 156 5)) 5 (pm_ct M 156 6)) 6 (pm_ct M 156 7)) 7 (pm_ct M 156 8)) 8 (pm_ct M 156 9)) 9 (pm_ct M 156 10)) 10 (pm_ct M 156 11)) 11 z2), (116, pm_upd (pm_ct M 116) 70 12)] M) := lay25.muF (l := [(155, pm_upd (pm_upd (pm_upd (pm_upd (pm_upd (pm_upd (pm_upd (pm_upd (pm_upd (pm_upd (pm_upd (pm_upd (pm_ct M 155) 0 (pm_ct M 155 1)) 1 (pm_ct M 155 2)) 2 (pm_ct M 155 3)) 3 (pm_ct M 155 4)) 4 (pm_ct M 155 5)) 5 (pm_ct M 155 6)) 6 (pm_ct M 155 7)) 7 (pm_ct M 155 8)) 8 (pm_ct M 155 9)) 9 (pm_ct M 155 10)) 10 (pm_ct M 155 11)) 11 z1), (156, pm_upd (pm_upd (pm_upd (pm_upd (pm_upd (pm_upd (pm_upd (pm_upd (pm_upd (pm_upd (pm_upd (pm_upd (pm_ct M 156) 0 (pm_ct M 156 1)) 1 (pm_ct M 156 2)) 2 (pm_ct M 156 3)) 3 (pm_ct M 156 4)) 4 (pm_ct M 156 5)) 5 (pm_ct M 156 6)) 6 (pm_ct M 156 7)) 7 (pm_ct M 156 8)) 8 (pm_ct M 156 9)) 9 (pm_ct M 156 10)) 10 (pm_ct M 156 11)) 11 z2), (116, pm_upd (pm_ct M 116) 70 11)]) (a := 116) (k := 70) (z := 12) rfl (congrArg (fun F => [(155, pm_upd (pm_upd (pm_upd (pm_upd (pm_upd (pm_upd (pm_upd (pm_upd (pm_upd (pm_upd (pm_upd (pm_upd (pm_ct M 155) 0 (pm_ct M 155 1)) 1 (pm_ct M 155 2)) 2 (pm_ct M 155 3)) 3 (pm_ct M 155 4)) 4 (pm_ct M 155 5)) 5 (pm_ct M 155 6)) 6 (pm_ct M 155 7)) 7 (pm_ct M 155 8)) 8 (pm_ct M 155 9)) 9 (pm_ct M 155 10)) 10 (pm_ct M 155 11)) 11 z1), (156, pm_upd (pm_upd (pm_upd (pm_upd (pm_upd (pm_upd (pm_upd (pm_upd (pm_upd (pm_upd (pm_upd (pm_upd (pm_ct M 156) 0 (pm_ct M 156 1)) 1 (pm_ct M 156 2)) 2 (pm_ct M 156 3)) 3 (pm_ct M 156 4)) 4 (pm_ct M 156 5)) 5 (pm_ct M 156 6)) 6 (pm_ct M 156 7)) 7 (pm_ct M 156 8)) 8 (pm_ct M 156 9)) 9 (pm_ct M 156 10)) 10 (pm_ct M 156 11)) 11 z2), (116, F)]) (pm_upd_upd _ _ _ _))
    refine m_putfield (u := [(155, pm_upd (pm_upd (pm_upd (pm_upd (pm_upd (pm_upd (pm_upd (pm_upd (pm_upd (pm_upd (pm_upd (pm_upd (pm_ct M 155) 0 (pm_ct M 155 1)) 1 (pm_ct M 155 2)) 2 (pm_ct M 155 3)) 3 (pm_ct M 155 4)) 4 (pm_ct M 155 5)) 5 (pm_ct M 155 6)) 6 (pm_ct M 155 7)) 7 (pm_ct M 155 8)) 8 (pm_ct M 155 9)) 9 (pm_ct M 155 10)) 10 (pm_ct M 155 11)) 11 z1), (156, pm_upd (pm_upd (pm_upd (pm_upd (pm_upd (pm_upd (pm_upd (pm_upd (pm_upd (pm_upd (pm_upd (pm_upd (pm_ct M 156) 0 (pm_ct M 156 1)) 1 (pm_ct M 156 2)) 2 (pm_ct M 156 3)) 3 (pm_ct M 156 4)) 4 (pm_ct M 156 5)) 5 (pm_ct M 156 6)) 6 (pm_ct M 156 7)) 7 (pm_ct M 156 8)) 8 (pm_ct M 156 9)) 9 (pm_ct M 156 10)) 10 (pm_ct M 156 11)) 11 z2), (116, pm_upd (pm_ct M 116) 70 11)]) (u' := [(155, pm_upd (pm_upd (pm_upd (pm_upd (pm_upd (pm_upd (pm_upd (pm_upd (pm_upd (pm_upd (pm_upd (pm_upd (pm_ct M 155) 0 (pm_ct M 155 1)) 1 (pm_ct M 155 2)) 2 (pm_ct M 155 3)) 3 (pm_ct M 155 4)) 4 (pm_ct M 155 5)) 5 (pm_ct M 155 6)) 6 (pm_ct M 155 7)) 7 (pm_ct M 155 8)) 8 (pm_ct M 155 9)) 9 (pm_ct M 155 10)) 10 (pm_ct M 155 11)) 11 z1), (156, pm_upd (pm_upd (pm_upd (pm_upd (pm_upd (pm_upd (pm_upd (pm_upd (pm_upd (pm_upd (pm_upd (pm_upd (pm_ct M 156) 0 (pm_ct M 156 1)) 1 (pm_ct M 156 2)) 2 (pm_ct M 156 3)) 3 (pm_ct M 156 4)) 4 (pm_ct M 156 5)) 5 (pm_ct M 156 6)) 6 (pm_ct M 156 7)) 7 (pm_ct M 156 8)) 8 (pm_ct M 156 9)) 9 (pm_ct M 156 10)) 10 (pm_ct M 156 11)) 11 z2), (116, pm_upd (pm_ct M 116) 70 12)]) (M := M) lk_260_88 rfl (lay25.on (by decide) rfl) (fun h => absurd h (by decide)) (congrArg (fun F => [(155, pm_upd (pm_upd (pm_upd (pm_upd (pm_upd (pm_upd (pm_upd (pm_upd (pm_upd (pm_upd (pm_upd (pm_upd (pm_ct M 155) 0 (pm_ct M 155 1)) 1 (pm_ct M 155 2)) 2 (pm_ct M 155 3)) 3 (pm_ct M 155 4)) 4 (pm_ct M 155 5)) 5 (pm_ct M 155 6)) 6 (pm_ct M 155 7)) 7 (pm_ct M 155 8)) 8 (pm_ct M 155 9)) 9 (pm_ct M 155 10)) 10 (pm_ct M 155 11)) 11 z1), (156, pm_upd (pm_upd (pm_upd (pm_upd (pm_upd (pm_upd (pm_upd (pm_upd (pm_upd (pm_upd (pm_upd (pm_upd (pm_ct M 156) 0 (pm_ct M 156 1)) 1 (pm_ct M 156 2)) 2 (pm_ct M 156 3)) 3 (pm_ct M 156 4)) 4 (pm_ct M 156 5)) 5 (pm_ct M 156 6)) 6 (pm_ct M 156 7)) 7 (pm_ct M 156 8)) 8 (pm_ct M 156 9)) 9 (pm_ct M 156 10)) 10 (pm_ct M 156 11)) 11 z2), (116, F)]) (pm_upd_upd _ _ _ _)) ?_
    refine g_return lk_260_91 ?_
    refine ⟨rfl, lay26, MF.mu _ _ rfl (fun k hk => upd_ne (by intro q; rw [q] at hk; exact hk (by decide))), ?_, ?_, fun i hi => ?_⟩
    · unfold kN; rw [if_pos e]; omega
    · unfold kN; rw [if_pos e, Mu_ct]; rfl
    · unfold kN at hi
      rw [if_pos e] at hi
      rw [Mu_ct, Mu_ct]
      unfold kA
      rw [if_pos e]
      rcases (by omega : i = 0 ∨ i = 1 ∨ i = 2 ∨ i = 3 ∨ i = 4 ∨ i = 5 ∨ i = 6 ∨ i = 7 ∨ i = 8 ∨ i = 9 ∨ i = 10 ∨ i = 11) with q | q | q | q | q | q | q | q | q | q | q | q
      · rw [q]; exact ⟨r1.1, r1.2⟩
      · rw [q]; exact ⟨r2.1, r2.2⟩
      · rw [q]; exact ⟨r3.1, r3.2⟩
      · rw [q]; exact ⟨r4.1, r4.2⟩
      · rw [q]; exact ⟨r5.1, r5.2⟩
      · rw [q]; exact ⟨r6.1, r6.2⟩
      · rw [q]; exact ⟨r7.1, r7.2⟩
      · rw [q]; exact ⟨r8.1, r8.2⟩
      · rw [q]; exact ⟨r9.1, r9.2⟩
      · rw [q]; exact ⟨r10.1, r10.2⟩
      · rw [q]; exact ⟨r11.1, r11.2⟩
      · rw [q]; exact ⟨hz1, hz2⟩
  · skip
    refine g_aload_n lk_260_0 rfl ?_
    refine m_getfield (u := []) (M := M) lk_260_1 rfl (lay0.on (by decide) rfl) (v := (n : Int)) h12 ?_
    refine g_bipush lk_260_4 ?_
    refine g_icmp (t := 61) lk_260_6 rfl (by first | (unfold pm_inI; omega) | exact pm_and_in _ _ | exact pm_shr_in _ _ | exact pm_or_in _ _ | exact pm_xor_in _ _ | exact pm_shl_in _ _ | exact pm_cmp_in _ _ | exact pm_b8_in _ | (unfold pm_inI; split <;> omega)) (by first | (unfold pm_inI; omega) | exact pm_and_in _ _ | exact pm_shr_in _ _ | exact pm_or_in _ _ | exact pm_xor_in _ _ | exact pm_shl_in _ _ | exact pm_cmp_in _ _ | exact pm_b8_in _ | (unfold pm_inI; split <;> omega)) (fun h1 => ?_) (fun h1 => ?_)
    · replace h1 : ¬ (n : Int) = 12 := h1
      refine g_aload_n lk_260_61 rfl ?_
      refine g_getfield lk_260_62 rfl (lay0.on (by decide) rfl) (v := ((155 : Nat) : Int)) (lay0.rf rfl) ?_
      refine g_aload_n lk_260_65 rfl ?_
      refine m_getfield (u := []) (M := M) lk_260_66 rfl (lay0.on (by decide) rfl) (v := (n : Int)) h12 ?_
      refine g_iload_n lk_260_69 rfl ?_
      have lay2 : Lay (Mu [(155, pm_upd (pm_ct M 155) n z1)] M) := lay0.muA (l := []) (a := 155) (f := pm_upd (pm_ct M 155) n z1) rfl rfl
      refine m_iastore (u := []) (u' := [(155, pm_upd (pm_ct M 155) n z1)]) (M := M) lk_260_70 (lay0.ay (by decide) rfl) (by omega) (j := n) (by omega) rfl ?_
      refine g_aload_n lk_260_71 rfl ?_
      refine g_getfield lk_260_72 rfl (lay2.on (by decide) rfl) (v := ((156 : Nat) : Int)) (lay2.rf rfl) ?_
      refine g_aload_n lk_260_75 rfl ?_
      refine m_getfield (u := [(155, pm_upd (pm_ct M 155) n z1)]) (M := M) lk_260_76 rfl (lay2.on (by decide) rfl) (v := (n : Int)) h12 ?_
      refine g_iload_n lk_260_79 rfl ?_
      have lay3 : Lay (Mu [(155, pm_upd (pm_ct M 155) n z1), (156, pm_upd (pm_ct M 156) n z2)] M) := lay2.muA (l := [(155, pm_upd (pm_ct M 155) n z1)]) (a := 156) (f := pm_upd (pm_ct M 156) n z2) rfl rfl
      refine m_iastore (u := [(155, pm_upd (pm_ct M 155) n z1)]) (u' := [(155, pm_upd (pm_ct M 155) n z1), (156, pm_upd (pm_ct M 156) n z2)]) (M := M) lk_260_80 (lay2.ay (by decide) rfl) (by omega) (j := n) (by omega) rfl ?_
      refine g_aload_n lk_260_81 rfl ?_
      refine g_dup lk_260_82 rfl ?_
      refine m_getfield (u := [(155, pm_upd (pm_ct M 155) n z1), (156, pm_upd (pm_ct M 156) n z2)]) (M := M) lk_260_83 rfl (lay3.on (by decide) rfl) (v := (n : Int)) h12 ?_
      refine g_iconst lk_260_86 ?_
      refine g_iadd lk_260_87 ?_
      have lay4 : Lay (Mu [(155, pm_upd (pm_ct M 155) n z1), (156, pm_upd (pm_ct M 156) n z2), (116, pm_upd (pm_ct M 116) 70 ((n : Int) + 1))] M) := lay3.muF (l := [(155, pm_upd (pm_ct M 155) n z1), (156, pm_upd (pm_ct M 156) n z2)]) (a := 116) (k := 70) (z := ((n : Int) + 1)) rfl rfl
      refine m_putfield (u := [(155, pm_upd (pm_ct M 155) n z1), (156, pm_upd (pm_ct M 156) n z2)]) (u' := [(155, pm_upd (pm_ct M 155) n z1), (156, pm_upd (pm_ct M 156) n z2), (116, pm_upd (pm_ct M 116) 70 ((n : Int) + 1))]) (M := M) lk_260_88 rfl (lay3.on (by decide) rfl) (fun h => absurd h (by decide)) rfl ?_
      refine g_return lk_260_91 ?_
      refine ⟨rfl, lay4, MF.mu _ _ rfl (fun k hk => upd_ne (by intro q; rw [q] at hk; exact hk (by decide))), ?_, ?_, fun i hi => ?_⟩
      · unfold kN; rw [if_neg e]; omega
      · unfold kN; rw [if_neg e, Mu_ct]; rfl
      · unfold kN at hi
        rw [if_neg e] at hi
        rw [Mu_ct, Mu_ct]
        show pm_upd (pm_ct M 155) n z1 i = acC (kA n a z i) ∧ pm_upd (pm_ct M 156) n z2 i = acW (kA n a z i)
        unfold kA
        rw [if_neg e]
        by_cases q : i = n
        · rw [q, pm_upd_eq, pm_upd_eq, if_pos rfl]; exact ⟨hz1, hz2⟩
        · rw [pm_upd_ne q, pm_upd_ne q, if_neg q]; exact ha i (by omega)
    · replace h1 : ¬ (¬ (n : Int) = 12) := h1
      omega
def KdM (M : pm_M) (a : Nat) : Prop := ∀ k, k < 124 → 0 ≤ pm_ct M a k ∧ pm_ct M a k ≤ 2
/-- the model's state: table, trees, acts, what is laid -/
def StM (M : pm_M) (T : Tab) (Ts : List (List Nd)) (ps dps : Nat → Nat → Nat) (na : Nat) (aa : Nat → Int) : Prop := Lay M ∧ MoAt M T ∧ TsMX M Ts ps dps ∧ AcM M na aa ∧ (∃ f, CL M T f) ∧ KdM M 123
theorem AcM.mf {S K : List Nat} {M N : pm_M} {n : Nat} {a : Nat → Int} (h : AcM M n a) (k : MF S K M N) (h1 : 70 ∉ K) (h2 : 155 ∉ S) (h3 : 156 ∉ S) : AcM N n a := by
  unfold AcM at h ⊢
  rw [k.fd h1, k.ct h2 (by decide), k.ct h3 (by decide)]; exact h
theorem KdM.mf {S K : List Nat} {M N : pm_M} {a : Nat} (h : KdM M a) (k : MF S K M N) (h1 : a ∉ S) (h2 : a ≠ 116) : KdM N a := by
  unfold KdM at h ⊢
  rw [k.ct h1 h2]; exact h
theorem CL_0 {M : pm_M} (T : Tab) (h : pm_ct M 116 49 = 0) : ∃ f, CL M T f := ⟨0, h, by omega, fun e => by omega⟩
set_option maxHeartbeats 4000000 in
theorem c_Mo_put {d mc ms : Nat} {M : pm_M} {T : Tab} (hT : TabOK T) {Ts : List (List Nd)} {ps dps : Nat → Nat → Nat} {na : Nat} {aa : Nat → Int} (hS : StM M T Ts ps dps na aa) {r c v : Int} (hr : pm_inI r) (hc : pm_inI c) (hv : pm_inI v) :
    pm_E (d + 2) 261 [(2, ((116 : Nat) : Int)), (0, r), (0, c), (0, v)] M mc ms (fun ρ M' => ρ = some (0, sPut T r c v) ∧ (okPut T r c v → StM M' (Tput T (6 * r.toNat + c.toNat) v.toNat) Ts ps dps (kN na) (kA na aa (zPut T r c))) ∧ (¬ okPut T r c v → StM M' T Ts ps dps na aa) ∧ MF [117, 155, 156] [0, 49, 70] M M') := by
  obtain ⟨lay0, hM0, hTs0, hAc0, ⟨f0, hL0⟩, hK0⟩ := hS
  have th := MF.th (S := [117, 155, 156]) (K := [0, 49, 70]) (by decide) M
  have th0 := MF.th (S := []) (K := [0]) (by decide) M
  have mo := hM0.mf th0 (by decide) (by decide) (by decide) (by decide)
  have ts := hTs0.mf th0 (by decide) (by decide) (by decide) (by decide) (by decide)
  have ac := hAc0.mf th0 (by decide) (by decide) (by decide)
  have cl := hL0.mf th0 (by decide) (by decide) (by decide) (by decide)
  have kd := hK0.mf th0 (by decide) (by decide)
  have hR := hT.1
  have hC := hT.2.1
  have st0 : Lay (Mu [(116, pm_upd (pm_ct M 116) 0 0)] M) → StM (Mu [(116, pm_upd (pm_ct M 116) 0 0)] M) T Ts ps dps na aa := fun l => ⟨l, mo, ts, ac, ⟨f0, cl⟩, kd⟩
  have ic := fun l => c_Mo_isCell (d := d) (mc := 0) (ms := 0) (M := Mu [(116, pm_upd (pm_ct M 116) 0 0)] M) l hT mo hr hc
  have iv := fun (M : pm_M) => c_Mo_in (d := d + 1) (mc := 0) (ms := 0) (M := M) (v := v) (l := 0) (h := 10) hv (by unfold pm_inI; omega) (by unfold pm_inI; omega)
  show Wp (d + 2) 261 0 [(2, ((116 : Nat) : Int)), (0, r), (0, c), (0, v), (9, 0)] [] M mc ms _
  by_cases e1 : (0 ≤ r ∧ r < tR T) ∧ (0 ≤ c ∧ c < tC T)
  rotate_left
  · rw [if_neg e1] at ic
    have no : ¬ okPut T r c v := fun q => e1 q.1
    have es : sPut T r c v = -1 := by unfold sPut; rw [if_neg no]
    rw [es]
    refine g_aload_n lk_261_0 rfl ?_
    refine g_iconst lk_261_1 ?_
    have lay1 : Lay (Mu [(116, pm_upd (pm_ct M 116) 0 0)] M) := lay0.muF (l := []) (a := 116) (k := 0) (z := 0) rfl rfl
    refine m_putfield (u := []) (u' := [(116, pm_upd (pm_ct M 116) 0 0)]) (M := M) lk_261_2 rfl (lay0.on (by decide) rfl) (fun h => absurd h (by decide)) rfl ?_
    refine g_aload_n lk_261_5 rfl ?_
    refine g_iload_n lk_261_6 rfl ?_
    refine g_iload_n lk_261_7 rfl ?_
    refine g_virtual (p := 116) (Qc := _) lk_261_8 rfl (Nat.le_of_ble_eq_true rfl) rfl rfl (lay1.on (by decide) rfl) (Nat.le_of_ble_eq_true rfl) (Nat.le_of_ble_eq_true rfl) (Nat.zero_le _) (Nat.zero_le _) (ic lay1) ?_
    rintro _ N2 ⟨rfl, hN2⟩
    rw [hN2]
    show Wp _ 261 11 [(2, ((116 : Nat) : Int)), (0, r), (0, c), (0, v), (9, 0)] [(0, 0)] (Mu [(116, pm_upd (pm_ct M 116) 0 0)] M) _ _ _
    refine g_if (t := 34) lk_261_11 rfl (by first | (unfold pm_inI; omega) | exact pm_and_in _ _ | exact pm_shr_in _ _ | exact pm_or_in _ _ | exact pm_xor_in _ _ | exact pm_shl_in _ _ | exact pm_cmp_in _ _ | exact pm_b8_in _ | (unfold pm_inI; split <;> omega)) (fun _ => ?_) (fun h => absurd (show (0 : Int) = (0 : Int) by omega) h)
    refine g_iconst lk_261_34 ?_
    refine g_ireturn lk_261_35 (fun h => absurd h (by decide)) ?_
    exact ⟨rfl, fun q => absurd q no, fun _ => st0 lay1, th⟩
  rw [if_pos e1] at ic
  by_cases e2 : 0 ≤ v ∧ v ≤ 10
  rotate_left
  · rw [if_neg e2] at iv
    have no : ¬ okPut T r c v := fun q => e2 q.2.1
    have es : sPut T r c v = -1 := by unfold sPut; rw [if_neg no]
    rw [es]
    refine g_aload_n lk_261_0 rfl ?_
    refine g_iconst lk_261_1 ?_
    have lay1 : Lay (Mu [(116, pm_upd (pm_ct M 116) 0 0)] M) := lay0.muF (l := []) (a := 116) (k := 0) (z := 0) rfl rfl
    refine m_putfield (u := []) (u' := [(116, pm_upd (pm_ct M 116) 0 0)]) (M := M) lk_261_2 rfl (lay0.on (by decide) rfl) (fun h => absurd h (by decide)) rfl ?_
    refine g_aload_n lk_261_5 rfl ?_
    refine g_iload_n lk_261_6 rfl ?_
    refine g_iload_n lk_261_7 rfl ?_
    refine g_virtual (p := 116) (Qc := _) lk_261_8 rfl (Nat.le_of_ble_eq_true rfl) rfl rfl (lay1.on (by decide) rfl) (Nat.le_of_ble_eq_true rfl) (Nat.le_of_ble_eq_true rfl) (Nat.zero_le _) (Nat.zero_le _) (ic lay1) ?_
    rintro _ N2 ⟨rfl, hN2⟩
    rw [hN2]
    show Wp _ 261 11 [(2, ((116 : Nat) : Int)), (0, r), (0, c), (0, v), (9, 0)] [(0, 1)] (Mu [(116, pm_upd (pm_ct M 116) 0 0)] M) _ _ _
    refine g_if (t := 34) lk_261_11 rfl (by first | (unfold pm_inI; omega) | exact pm_and_in _ _ | exact pm_shr_in _ _ | exact pm_or_in _ _ | exact pm_xor_in _ _ | exact pm_shl_in _ _ | exact pm_cmp_in _ _ | exact pm_b8_in _ | (unfold pm_inI; split <;> omega)) (fun h => absurd h (show ¬ ((1 : Int) = (0 : Int)) by omega)) (fun _ => ?_)
    refine g_iload_n lk_261_14 rfl ?_
    refine g_iconst lk_261_15 ?_
    refine g_bipush lk_261_16 ?_
    refine g_static (Qc := _) lk_261_18 (by decide) rfl (Nat.le_of_ble_eq_true rfl) rfl rfl (Nat.le_of_ble_eq_true rfl) (Nat.le_of_ble_eq_true rfl) (Nat.zero_le _) (Nat.zero_le _) (iv _) ?_
    rintro _ N3 ⟨rfl, hN3⟩
    rw [hN3]
    show Wp _ 261 21 [(2, ((116 : Nat) : Int)), (0, r), (0, c), (0, v), (9, 0)] [(0, 0)] (Mu [(116, pm_upd (pm_ct M 116) 0 0)] M) _ _ _
    refine g_if (t := 34) lk_261_21 rfl (by first | (unfold pm_inI; omega) | exact pm_and_in _ _ | exact pm_shr_in _ _ | exact pm_or_in _ _ | exact pm_xor_in _ _ | exact pm_shl_in _ _ | exact pm_cmp_in _ _ | exact pm_b8_in _ | (unfold pm_inI; split <;> omega)) (fun _ => ?_) (fun h => absurd (show (0 : Int) = (0 : Int) by omega) h)
    refine g_iconst lk_261_34 ?_
    refine g_ireturn lk_261_35 (fun h => absurd h (by decide)) ?_
    exact ⟨rfl, fun q => absurd q no, fun _ => st0 lay1, th⟩
  rw [if_pos e2] at iv
  obtain ⟨r, rfl⟩ := Int.eq_ofNat_of_zero_le e1.1.1
  obtain ⟨c, rfl⟩ := Int.eq_ofNat_of_zero_le e1.2.1
  obtain ⟨v, rfl⟩ := Int.eq_ofNat_of_zero_le e2.1
  have at1 := fun l => c_Mo_cellAt (d := d + 1) (mc := 0) (ms := 0) (M := Mu [(116, pm_upd (pm_ct M 116) 0 0)] M) l mo (r := r) (c := c) (by omega) (by omega)
  have x10 := hT.2.2.1 (6 * r + c)
  have ezp : zPut T (r : Int) (c : Int) = (((6 * r + c) * 11 + tX T (6 * r + c) : Nat) : Int) := rfl
  have esp : sPut T (r : Int) (c : Int) (v : Int) = if okPut T (r : Int) (c : Int) (v : Int) then (tX T (6 * r + c) : Int) else -1 := rfl
  have eok : okPut T (r : Int) (c : Int) (v : Int) ↔ ¬ tX T (6 * r + c) = v := ⟨fun q => fun e => q.2.2 (by show (tX T (6 * r + c) : Int) = (v : Int); omega), fun q => ⟨e1, e2, fun e => q (by have e' : (tX T (6 * r + c) : Int) = (v : Int) := e; omega)⟩⟩
  have etp : Tput T (6 * (r : Int).toNat + (c : Int).toNat) (v : Int).toNat = Tput T (6 * r + c) v := rfl
  rw [esp, etp, ezp]
  obtain ⟨x, hx⟩ : ∃ x, x = tX T (6 * r + c) := ⟨_, rfl⟩
  obtain ⟨j, hj⟩ : ∃ j, j = 6 * r + c := ⟨_, rfl⟩
  rw [← hx] at at1 x10 eok ⊢
  rw [← hj]
  by_cases e3 : x = v
  · have no : ¬ okPut T (r : Int) (c : Int) (v : Int) := fun q => (eok.mp q) e3
    rw [if_neg no]
    refine g_aload_n lk_261_0 rfl ?_
    refine g_iconst lk_261_1 ?_
    have lay1 : Lay (Mu [(116, pm_upd (pm_ct M 116) 0 0)] M) := lay0.muF (l := []) (a := 116) (k := 0) (z := 0) rfl rfl
    refine m_putfield (u := []) (u' := [(116, pm_upd (pm_ct M 116) 0 0)]) (M := M) lk_261_2 rfl (lay0.on (by decide) rfl) (fun h => absurd h (by decide)) rfl ?_
    refine g_aload_n lk_261_5 rfl ?_
    refine g_iload_n lk_261_6 rfl ?_
    refine g_iload_n lk_261_7 rfl ?_
    refine g_virtual (p := 116) (Qc := _) lk_261_8 rfl (Nat.le_of_ble_eq_true rfl) rfl rfl (lay1.on (by decide) rfl) (Nat.le_of_ble_eq_true rfl) (Nat.le_of_ble_eq_true rfl) (Nat.zero_le _) (Nat.zero_le _) (ic lay1) ?_
    rintro _ N2 ⟨rfl, hN2⟩
    rw [hN2]
    show Wp _ 261 11 [(2, ((116 : Nat) : Int)), (0, (r : Int)), (0, (c : Int)), (0, (v : Int)), (9, 0)] [(0, 1)] (Mu [(116, pm_upd (pm_ct M 116) 0 0)] M) _ _ _
    refine g_if (t := 34) lk_261_11 rfl (by first | (unfold pm_inI; omega) | exact pm_and_in _ _ | exact pm_shr_in _ _ | exact pm_or_in _ _ | exact pm_xor_in _ _ | exact pm_shl_in _ _ | exact pm_cmp_in _ _ | exact pm_b8_in _ | (unfold pm_inI; split <;> omega)) (fun h => absurd h (show ¬ ((1 : Int) = (0 : Int)) by omega)) (fun _ => ?_)
    refine g_iload_n lk_261_14 rfl ?_
    refine g_iconst lk_261_15 ?_
    refine g_bipush lk_261_16 ?_
    refine g_static (Qc := _) lk_261_18 (by decide) rfl (Nat.le_of_ble_eq_true rfl) rfl rfl (Nat.le_of_ble_eq_true rfl) (Nat.le_of_ble_eq_true rfl) (Nat.zero_le _) (Nat.zero_le _) (iv _) ?_
    rintro _ N3 ⟨rfl, hN3⟩
    rw [hN3]
    show Wp _ 261 21 [(2, ((116 : Nat) : Int)), (0, (r : Int)), (0, (c : Int)), (0, (v : Int)), (9, 0)] [(0, 1)] (Mu [(116, pm_upd (pm_ct M 116) 0 0)] M) _ _ _
    refine g_if (t := 34) lk_261_21 rfl (by first | (unfold pm_inI; omega) | exact pm_and_in _ _ | exact pm_shr_in _ _ | exact pm_or_in _ _ | exact pm_xor_in _ _ | exact pm_shl_in _ _ | exact pm_cmp_in _ _ | exact pm_b8_in _ | (unfold pm_inI; split <;> omega)) (fun h => absurd h (show ¬ ((1 : Int) = (0 : Int)) by omega)) (fun _ => ?_)
    refine g_aload_n lk_261_24 rfl ?_
    refine g_iload_n lk_261_25 rfl ?_
    refine g_iload_n lk_261_26 rfl ?_
    refine g_virtual (p := 116) (Qc := _) lk_261_27 rfl (Nat.le_of_ble_eq_true rfl) rfl rfl (lay1.on (by decide) rfl) (Nat.le_of_ble_eq_true rfl) (Nat.le_of_ble_eq_true rfl) (Nat.zero_le _) (Nat.zero_le _) (at1 lay1) ?_
    rintro _ N4 ⟨rfl, hN4⟩
    rw [hN4]
    show Wp _ 261 30 [(2, ((116 : Nat) : Int)), (0, (r : Int)), (0, (c : Int)), (0, (v : Int)), (9, 0)] [(0, (x : Int))] (Mu [(116, pm_upd (pm_ct M 116) 0 0)] M) _ _ _
    refine g_iload_n lk_261_30 rfl ?_
    refine g_icmp (t := 36) lk_261_31 rfl (by first | (unfold pm_inI; omega) | exact pm_and_in _ _ | exact pm_shr_in _ _ | exact pm_or_in _ _ | exact pm_xor_in _ _ | exact pm_shl_in _ _ | exact pm_cmp_in _ _ | exact pm_b8_in _ | (unfold pm_inI; split <;> omega)) (by first | (unfold pm_inI; omega) | exact pm_and_in _ _ | exact pm_shr_in _ _ | exact pm_or_in _ _ | exact pm_xor_in _ _ | exact pm_shl_in _ _ | exact pm_cmp_in _ _ | exact pm_b8_in _ | (unfold pm_inI; split <;> omega)) (fun h5 => ?_) (fun h5 => ?_)
    · replace h5 : ¬ (x : Int) = (v : Int) := h5
      omega
    · replace h5 : ¬ (¬ (x : Int) = (v : Int)) := h5
      refine g_iconst lk_261_34 ?_
      refine g_ireturn lk_261_35 (fun h => absurd h (by decide)) ?_
      exact ⟨rfl, fun q => absurd q no, fun _ => st0 lay1, th⟩
  · have yes : okPut T (r : Int) (c : Int) (v : Int) := eok.mpr e3
    rw [if_pos yes]
    have ej : (6 : Int) * (r : Int) + (c : Int) = (j : Int) := by omega
    have z1 : (j : Int) = acC ((j * 11 + x : Nat) : Int) := by unfold acC; rw [if_neg (by omega), Int.toNat_natCast]; omega
    have z2 : (x : Int) = acW ((j * 11 + x : Nat) : Int) := by unfold acW; rw [if_neg (by omega), Int.toNat_natCast]; omega
    have kp := fun l => c_Mo_keep (d := d + 1) (mc := 0) (ms := 0) (M := Mu [(116, pm_upd (pm_ct M 116) 0 0)] M) l ac z1 z2
    refine g_aload_n lk_261_0 rfl ?_
    refine g_iconst lk_261_1 ?_
    have lay1 : Lay (Mu [(116, pm_upd (pm_ct M 116) 0 0)] M) := lay0.muF (l := []) (a := 116) (k := 0) (z := 0) rfl rfl
    refine m_putfield (u := []) (u' := [(116, pm_upd (pm_ct M 116) 0 0)]) (M := M) lk_261_2 rfl (lay0.on (by decide) rfl) (fun h => absurd h (by decide)) rfl ?_
    refine g_aload_n lk_261_5 rfl ?_
    refine g_iload_n lk_261_6 rfl ?_
    refine g_iload_n lk_261_7 rfl ?_
    refine g_virtual (p := 116) (Qc := _) lk_261_8 rfl (Nat.le_of_ble_eq_true rfl) rfl rfl (lay1.on (by decide) rfl) (Nat.le_of_ble_eq_true rfl) (Nat.le_of_ble_eq_true rfl) (Nat.zero_le _) (Nat.zero_le _) (ic lay1) ?_
    rintro _ N2 ⟨rfl, hN2⟩
    rw [hN2]
    show Wp _ 261 11 [(2, ((116 : Nat) : Int)), (0, (r : Int)), (0, (c : Int)), (0, (v : Int)), (9, 0)] [(0, 1)] (Mu [(116, pm_upd (pm_ct M 116) 0 0)] M) _ _ _
    refine g_if (t := 34) lk_261_11 rfl (by first | (unfold pm_inI; omega) | exact pm_and_in _ _ | exact pm_shr_in _ _ | exact pm_or_in _ _ | exact pm_xor_in _ _ | exact pm_shl_in _ _ | exact pm_cmp_in _ _ | exact pm_b8_in _ | (unfold pm_inI; split <;> omega)) (fun h => absurd h (show ¬ ((1 : Int) = (0 : Int)) by omega)) (fun _ => ?_)
    refine g_iload_n lk_261_14 rfl ?_
    refine g_iconst lk_261_15 ?_
    refine g_bipush lk_261_16 ?_
    refine g_static (Qc := _) lk_261_18 (by decide) rfl (Nat.le_of_ble_eq_true rfl) rfl rfl (Nat.le_of_ble_eq_true rfl) (Nat.le_of_ble_eq_true rfl) (Nat.zero_le _) (Nat.zero_le _) (iv _) ?_
    rintro _ N3 ⟨rfl, hN3⟩
    rw [hN3]
    show Wp _ 261 21 [(2, ((116 : Nat) : Int)), (0, (r : Int)), (0, (c : Int)), (0, (v : Int)), (9, 0)] [(0, 1)] (Mu [(116, pm_upd (pm_ct M 116) 0 0)] M) _ _ _
    refine g_if (t := 34) lk_261_21 rfl (by first | (unfold pm_inI; omega) | exact pm_and_in _ _ | exact pm_shr_in _ _ | exact pm_or_in _ _ | exact pm_xor_in _ _ | exact pm_shl_in _ _ | exact pm_cmp_in _ _ | exact pm_b8_in _ | (unfold pm_inI; split <;> omega)) (fun h => absurd h (show ¬ ((1 : Int) = (0 : Int)) by omega)) (fun _ => ?_)
    refine g_aload_n lk_261_24 rfl ?_
    refine g_iload_n lk_261_25 rfl ?_
    refine g_iload_n lk_261_26 rfl ?_
    refine g_virtual (p := 116) (Qc := _) lk_261_27 rfl (Nat.le_of_ble_eq_true rfl) rfl rfl (lay1.on (by decide) rfl) (Nat.le_of_ble_eq_true rfl) (Nat.le_of_ble_eq_true rfl) (Nat.zero_le _) (Nat.zero_le _) (at1 lay1) ?_
    rintro _ N4 ⟨rfl, hN4⟩
    rw [hN4]
    show Wp _ 261 30 [(2, ((116 : Nat) : Int)), (0, (r : Int)), (0, (c : Int)), (0, (v : Int)), (9, 0)] [(0, (x : Int))] (Mu [(116, pm_upd (pm_ct M 116) 0 0)] M) _ _ _
    refine g_iload_n lk_261_30 rfl ?_
    refine g_icmp (t := 36) lk_261_31 rfl (by first | (unfold pm_inI; omega) | exact pm_and_in _ _ | exact pm_shr_in _ _ | exact pm_or_in _ _ | exact pm_xor_in _ _ | exact pm_shl_in _ _ | exact pm_cmp_in _ _ | exact pm_b8_in _ | (unfold pm_inI; split <;> omega)) (by first | (unfold pm_inI; omega) | exact pm_and_in _ _ | exact pm_shr_in _ _ | exact pm_or_in _ _ | exact pm_xor_in _ _ | exact pm_shl_in _ _ | exact pm_cmp_in _ _ | exact pm_b8_in _ | (unfold pm_inI; split <;> omega)) (fun h5 => ?_) (fun h5 => ?_)
    · replace h5 : ¬ (x : Int) = (v : Int) := h5
      refine g_aload_n lk_261_36 rfl ?_
      refine g_iload_n lk_261_37 rfl ?_
      refine g_iload_n lk_261_38 rfl ?_
      refine g_virtual (p := 116) (Qc := _) lk_261_39 rfl (Nat.le_of_ble_eq_true rfl) rfl rfl (lay1.on (by decide) rfl) (Nat.le_of_ble_eq_true rfl) (Nat.le_of_ble_eq_true rfl) (Nat.zero_le _) (Nat.zero_le _) (at1 lay1) ?_
      rintro _ N6 ⟨rfl, hN6⟩
      rw [hN6]
      show Wp _ 261 42 [(2, ((116 : Nat) : Int)), (0, (r : Int)), (0, (c : Int)), (0, (v : Int)), (9, 0)] [(0, (x : Int))] (Mu [(116, pm_upd (pm_ct M 116) 0 0)] M) _ _ _
      refine g_istore (ls' := [(2, ((116 : Nat) : Int)), (0, (r : Int)), (0, (c : Int)), (0, (v : Int)), (0, (x : Int))]) lk_261_42 rfl rfl ?_
      refine g_aload_n lk_261_44 rfl ?_
      refine g_bipush lk_261_45 ?_
      refine g_iload_n lk_261_47 rfl ?_
      refine g_imul lk_261_48 ?_
      refine g_iload_n lk_261_49 rfl ?_
      refine g_iadd lk_261_50 ?_
      refine g_top (z := ((6 * (r : Int)) + (c : Int))) (z' := (j : Int)) (ej) ?_
      refine g_iload lk_261_51 rfl ?_
      refine g_virtual (p := 116) (Qc := _) lk_261_53 rfl (Nat.le_of_ble_eq_true rfl) rfl rfl (lay1.on (by decide) rfl) (Nat.le_of_ble_eq_true rfl) (Nat.le_of_ble_eq_true rfl) (Nat.zero_le _) (Nat.zero_le _) (kp lay1) ?_
      rintro _ K1 ⟨rfl, lay1, f1, ac1⟩
      show Wp _ 261 56 [(2, ((116 : Nat) : Int)), (0, (r : Int)), (0, (c : Int)), (0, (v : Int)), (0, (x : Int))] [] K1 _ _ _
      refine g_aload_n lk_261_56 rfl ?_
      refine g_getfield lk_261_57 rfl (lay1.on (by decide) rfl) (v := ((117 : Nat) : Int)) (lay1.rf rfl) ?_
      refine g_bipush lk_261_60 ?_
      refine g_iload_n lk_261_62 rfl ?_
      refine g_imul lk_261_63 ?_
      refine g_iload_n lk_261_64 rfl ?_
      refine g_iadd lk_261_65 ?_
      refine g_top (z := ((6 * (r : Int)) + (c : Int))) (z' := (j : Int)) (ej) ?_
      refine g_iload_n lk_261_66 rfl ?_
      have lay7 : Lay (Mu [(117, pm_upd (pm_ct K1 117) j (v : Int))] K1) := lay1.muA (l := []) (a := 117) (f := pm_upd (pm_ct K1 117) j (v : Int)) rfl rfl
      refine m_iastore (u := []) (u' := [(117, pm_upd (pm_ct K1 117) j (v : Int))]) (M := K1) lk_261_67 (lay1.ay (by decide) rfl) (by omega) (j := j) (by omega) rfl ?_
      refine g_aload_n lk_261_68 rfl ?_
      refine g_iconst lk_261_69 ?_
      have lay8 : Lay (Mu [(117, pm_upd (pm_ct K1 117) j (v : Int)), (116, pm_upd (pm_ct K1 116) 49 0)] K1) := lay7.muF (l := [(117, pm_upd (pm_ct K1 117) j (v : Int))]) (a := 116) (k := 49) (z := 0) rfl rfl
      refine m_putfield (u := [(117, pm_upd (pm_ct K1 117) j (v : Int))]) (u' := [(117, pm_upd (pm_ct K1 117) j (v : Int)), (116, pm_upd (pm_ct K1 116) 49 0)]) (M := K1) lk_261_70 rfl (lay7.on (by decide) rfl) (fun _ => by omega) rfl ?_
      refine g_iload lk_261_73 rfl ?_
      refine g_ireturn lk_261_75 (fun h => absurd h (by decide)) ?_
      have fB : MF [117] [49] K1 (Mu [(117, pm_upd (pm_ct K1 117) j (v : Int)), (116, pm_upd (pm_ct K1 116) 49 0)] K1) := MF.mu _ _ rfl (fun k hk => upd_ne (by intro q; rw [q] at hk; exact hk (by decide)))
      have fA : MF [117, 155, 156] [0, 49, 70] M (Mu [(117, pm_upd (pm_ct K1 117) j (v : Int)), (116, pm_upd (pm_ct K1 116) 49 0)] K1) := th.trans ((f1.mono (fun a q => by simp at q ⊢; omega) (fun a q => by simp at q ⊢; omega)).trans (fB.mono (fun a q => by simp at q ⊢; omega) (fun a q => by simp at q ⊢; omega)))
      refine ⟨rfl, fun _ => ⟨lay8, ?_, hTs0.mf fA (by decide) (by decide) (by decide) (by decide) (by decide), ac1.mf fB (by decide) (by decide) (by decide), CL_0 _ (by rw [Mu_ct]; rfl), hK0.mf fA (by decide) (by decide)⟩, fun q => absurd yes q, fA⟩
      obtain ⟨m1, m2, m3, m4, m5⟩ := hM0
      refine ⟨by rw [fA.fd (by decide)]; exact m1, by rw [fA.fd (by decide)]; exact m2, by rw [fA.ct (by decide) (by decide)]; exact m3, by rw [fA.ct (by decide) (by decide)]; exact m4, fun i hi => ?_⟩
      rw [Mu_ct]
      show pm_upd (pm_ct K1 117) j (v : Int) i = (((if i = j then v else tX T i) : Nat) : Int)
      by_cases e : i = j
      · rw [e, pm_upd_eq, if_pos rfl]
      · rw [pm_upd_ne e, if_neg e, f1.ct (by decide) (by decide), Mu_ct]; exact m5 i hi
    · replace h5 : ¬ (¬ (x : Int) = (v : Int)) := h5
      omega
set_option maxHeartbeats 8000000 in
theorem c_Mo_turnsRound {d mc ms : Nat} {M : pm_M} {T : Tab} (hT : TabOK T) {Ts : List (List Nd)} {ps dps : Nat → Nat → Nat} {na : Nat} {aa : Nat → Int} (hS : StM M T Ts ps dps na aa) :
    pm_E d 262 [(2, ((116 : Nat) : Int))] M mc ms (fun ρ M' => ρ = none ∧ StM M' (Tsw T) (Ts.map Lsw) ps dps na aa ∧ MF [117, 120, 123] [1, 2, 49] M M') := by
  obtain ⟨Q, hQ⟩ : ∃ Q : pm_Q, Q = (fun ρ M' => ρ = none ∧ StM M' (Tsw T) (Ts.map Lsw) ps dps na aa ∧ MF [117, 120, 123] [1, 2, 49] M M') := ⟨_, rfl⟩
  rw [← hQ]
  obtain ⟨lay0, hM0, hTs0, hAc0, _, hK0⟩ := hS
  obtain ⟨x, hx⟩ : ∃ x : Nat → Nat, x = T.2.2.1 := ⟨_, rfl⟩
  obtain ⟨m1, m2, m3, m4, m5⟩ := id hM0
  have kinds : ∀ (n i : Nat) (z1 : Int) (v3 : pm_V) (N : pm_M), i + n = 124 → Lay N → MF [117, 120, 123] [1, 2, 49] M N → MoAt N (Tsw T) → (∀ k, k < 124 → pm_ct N 123 k = if k < i then (if pm_ct M 123 k = 0 then 0 else 3 - pm_ct M 123 k) else pm_ct M 123 k) → Wp d 262 119 [(2, ((116 : Nat) : Int)), (0, z1), (0, (i : Int)), v3] [] N mc ms Q := by
    intro n
    induction n with
    | zero =>
      intro i z1 v3 N hi lay mf mo hN
      have e : i = 124 := by omega
      rw [e] at hN ⊢
      refine g_iload_n lk_262_119 rfl ?_
      refine g_bipush lk_262_120 ?_
      refine g_icmp (t := 158) lk_262_122 rfl (by first | (unfold pm_inI; omega) | exact pm_and_in _ _ | exact pm_shr_in _ _ | exact pm_or_in _ _ | exact pm_xor_in _ _ | exact pm_shl_in _ _ | exact pm_cmp_in _ _ | exact pm_b8_in _ | (unfold pm_inI; split <;> omega)) (by first | (unfold pm_inI; omega) | exact pm_and_in _ _ | exact pm_shr_in _ _ | exact pm_or_in _ _ | exact pm_xor_in _ _ | exact pm_shl_in _ _ | exact pm_cmp_in _ _ | exact pm_b8_in _ | (unfold pm_inI; split <;> omega)) (fun _ => ?_) (fun h => absurd (show (124 : Int) ≤ (124 : Int) by omega) h)
      refine g_aload_n lk_262_158 rfl ?_
      refine g_iconst lk_262_159 ?_
      have lay1 : Lay (Mu [(116, pm_upd (pm_ct N 116) 49 0)] N) := lay.muF (l := []) (a := 116) (k := 49) (z := 0) rfl rfl
      refine m_putfield (u := []) (u' := [(116, pm_upd (pm_ct N 116) 49 0)]) (M := N) lk_262_160 rfl (lay.on (by decide) rfl) (fun _ => by omega) rfl ?_
      refine g_return lk_262_163 ?_
      rw [hQ]
      have fB : MF [] [49] N (Mu [(116, pm_upd (pm_ct N 116) 49 0)] N) := MF.mu _ _ rfl (fun k hk => upd_ne (by intro q; rw [q] at hk; exact hk (by decide)))
      have fA : MF [117, 120, 123] [1, 2, 49] M (Mu [(116, pm_upd (pm_ct N 116) 49 0)] N) := mf.trans (fB.mono (fun a q => by simp at q) (fun a q => by simp at q ⊢; omega))
      refine ⟨rfl, ⟨lay1, mo.mf fB (by decide) (by decide) (by decide) (by decide), ⟨by rw [List.length_map]; exact hTs0.1, by rw [List.length_map, fA.fd (by decide)]; exact hTs0.2.1, fun t ht => ?_⟩, hAc0.mf fA (by decide) (by decide) (by decide), CL_0 _ (by rw [Mu_ct]; rfl), fun k hk => ?_⟩, fA⟩
      · rw [List.length_map] at ht
        obtain ⟨⟨t1, t2⟩, tx⟩ := hTs0.2.2 t ht
        have l4 := hTs0.1
        have l31 := tx.1.2.1
        rw [Lsw_getD]
        refine ⟨⟨by rw [fA.ct (by decide) (by decide), Lsw_len]; exact t1, fun k hk => ?_⟩, tx.sw⟩
        rw [Lsw_len] at hk
        obtain ⟨y1, y2, y3⟩ := t2 k hk
        have a1 := (tx.1.2.2.2 k hk).1
        rw [fB.ct (by decide) (by decide), hN (31 * t + k) (by omega), if_pos (by omega), y1, fA.ct (by decide) (by decide), fA.ct (by decide) (by decide), ndA_sw]
        refine ⟨?_, y2, y3⟩
        show (if ((ndA (Ts.getD t []) k).1 : Int) = 0 then 0 else 3 - ((ndA (Ts.getD t []) k).1 : Int)) = (((if (ndA (Ts.getD t []) k).1 = 0 then 0 else 3 - (ndA (Ts.getD t []) k).1) : Nat) : Int)
        by_cases z : (ndA (Ts.getD t []) k).1 = 0
        · rw [if_pos (by omega), if_pos z]; rfl
        · rw [if_neg (by omega), if_neg z]; omega
      · rw [fB.ct (by decide) (by decide), hN k hk, if_pos hk]
        have := hK0 k hk
        split <;> omega
    | succ n ih =>
      intro i z1 v3 N hi lay mf mo hN
      have kb := hK0 i (by omega)
      have hi1 := hN i (by omega)
      rw [if_neg (by omega)] at hi1
      obtain ⟨y, hy⟩ : ∃ y, y = pm_ct M 123 i := ⟨_, rfl⟩
      rw [← hy] at kb hi1
      have go : ∀ (N' : pm_M) (z : Int), N' = Mu [(123, pm_upd (pm_ct N 123) i z)] N → Lay N' → z = (if y = 0 then 0 else 3 - y) → Wp d 262 119 [(2, ((116 : Nat) : Int)), (0, z1), (0, (i : Int) + 1), v3] [] N' mc ms Q := fun N' z hN' l1 hz => by
        have fB : MF [117, 120, 123] [1, 2, 49] N N' := by rw [hN']; exact MF.mu _ _ rfl (fun _ _ => rfl)
        refine ih (i + 1) z1 v3 N' (by omega) l1 (mf.trans fB) (by rw [hN']; exact mo.mf (MF.mu (S := [123]) (K := []) _ _ rfl (fun _ _ => rfl)) (by decide) (by decide) (by decide) (by decide)) (fun k hk => ?_)
        rw [hN', Mu_ct]
        show pm_upd (pm_ct N 123) i z k = _
        by_cases e : k = i
        · rw [e, pm_upd_eq, if_pos (by omega), hz, hy]
        · rw [pm_upd_ne e, hN k hk]
          by_cases e2 : k < i
          · rw [if_pos e2, if_pos (show k < i + 1 by omega)]
          · rw [if_neg e2, if_neg (show ¬ k < i + 1 by omega)]
      clear ih
      refine g_iload_n lk_262_119 rfl ?_
      refine g_bipush lk_262_120 ?_
      refine g_icmp (t := 158) lk_262_122 rfl (by first | (unfold pm_inI; omega) | exact pm_and_in _ _ | exact pm_shr_in _ _ | exact pm_or_in _ _ | exact pm_xor_in _ _ | exact pm_shl_in _ _ | exact pm_cmp_in _ _ | exact pm_b8_in _ | (unfold pm_inI; split <;> omega)) (by first | (unfold pm_inI; omega) | exact pm_and_in _ _ | exact pm_shr_in _ _ | exact pm_or_in _ _ | exact pm_xor_in _ _ | exact pm_shl_in _ _ | exact pm_cmp_in _ _ | exact pm_b8_in _ | (unfold pm_inI; split <;> omega)) (fun h1 => ?_) (fun h1 => ?_)
      · replace h1 : 124 ≤ (i : Int) := h1
        omega
      · replace h1 : ¬ (124 ≤ (i : Int)) := h1
        refine g_aload_n lk_262_125 rfl ?_
        refine g_getfield lk_262_126 rfl (lay.on (by decide) rfl) (v := ((123 : Nat) : Int)) (lay.rf rfl) ?_
        refine g_iload_n lk_262_129 rfl ?_
        refine g_aload_n lk_262_130 rfl ?_
        refine g_getfield lk_262_131 rfl (lay.on (by decide) rfl) (v := ((123 : Nat) : Int)) (lay.rf rfl) ?_
        refine g_iload_n lk_262_134 rfl ?_
        refine m_iaload (u := []) (M := N) lk_262_135 (lay.ay (by decide) rfl) (by omega) (j := i) (by omega) (v := y) hi1 ?_
        refine g_if (t := 143) lk_262_136 rfl (by first | (unfold pm_inI; omega) | exact pm_and_in _ _ | exact pm_shr_in _ _ | exact pm_or_in _ _ | exact pm_xor_in _ _ | exact pm_shl_in _ _ | exact pm_cmp_in _ _ | exact pm_b8_in _ | (unfold pm_inI; split <;> omega)) (fun h2 => ?_) (fun h2 => ?_)
        · replace h2 : ¬ y = 0 := h2
          refine g_iconst lk_262_143 ?_
          refine g_aload_n lk_262_144 rfl ?_
          refine g_getfield lk_262_145 rfl (lay.on (by decide) rfl) (v := ((123 : Nat) : Int)) (lay.rf rfl) ?_
          refine g_iload_n lk_262_148 rfl ?_
          refine m_iaload (u := []) (M := N) lk_262_149 (lay.ay (by decide) rfl) (by omega) (j := i) (by omega) (v := y) hi1 ?_
          refine g_isub lk_262_150 ?_
          have lay3 : Lay (Mu [(123, pm_upd (pm_ct N 123) i (3 - y))] N) := lay.muA (l := []) (a := 123) (f := pm_upd (pm_ct N 123) i (3 - y)) rfl rfl
          refine m_iastore (u := []) (u' := [(123, pm_upd (pm_ct N 123) i (3 - y))]) (M := N) lk_262_151 (lay.ay (by decide) rfl) (by omega) (j := i) (by omega) rfl ?_
          refine g_iinc (ls' := [(2, ((116 : Nat) : Int)), (0, z1), (0, ((i : Int) + 1)), v3]) lk_262_152 rfl rfl rfl ?_
          refine g_goto (t := 119) lk_262_155 rfl ?_
          exact go _ _ rfl lay3 (by rw [if_neg (by omega)])
        · replace h2 : ¬ (¬ y = 0) := h2
          refine g_iconst lk_262_139 ?_
          refine g_goto (t := 151) lk_262_140 rfl ?_
          have lay4 : Lay (Mu [(123, pm_upd (pm_ct N 123) i 0)] N) := lay.muA (l := []) (a := 123) (f := pm_upd (pm_ct N 123) i 0) rfl rfl
          refine m_iastore (u := []) (u' := [(123, pm_upd (pm_ct N 123) i 0)]) (M := N) lk_262_151 (lay.ay (by decide) rfl) (by omega) (j := i) (by omega) rfl ?_
          refine g_iinc (ls' := [(2, ((116 : Nat) : Int)), (0, z1), (0, ((i : Int) + 1)), v3]) lk_262_152 rfl rfl rfl ?_
          refine g_goto (t := 119) lk_262_155 rfl ?_
          exact go _ _ rfl lay4 (by rw [if_pos (by omega)])
  have inner : ∀ (r : Nat), r < 6 → (∀ (v2 v3 : pm_V) (N : pm_M), Lay N → MF [117] [] M N → (∀ i, i < 36 → pm_ct N 117 i = (swq x (r + 1) 0 i : Int)) → Wp d 262 2 [(2, ((116 : Nat) : Int)), (0, ((r + 1 : Nat) : Int)), v2, v3] [] N mc ms Q) →
      ∀ (n c : Nat) (v3 : pm_V) (N : pm_M), c + n = r → Lay N → MF [117] [] M N → (∀ i, i < 36 → pm_ct N 117 i = (swq x r c i : Int)) → Wp d 262 10 [(2, ((116 : Nat) : Int)), (0, (r : Int)), (0, (c : Int)), v3] [] N mc ms Q := by
    intro r hr go n
    induction n with
    | zero =>
      intro c v3 N hi lay mf hN
      have e : c = r := by omega
      rw [e] at hN ⊢
      refine g_iload_n lk_262_10 rfl ?_
      refine g_iload_n lk_262_11 rfl ?_
      refine g_icmp (t := 67) lk_262_12 rfl (by first | (unfold pm_inI; omega) | exact pm_and_in _ _ | exact pm_shr_in _ _ | exact pm_or_in _ _ | exact pm_xor_in _ _ | exact pm_shl_in _ _ | exact pm_cmp_in _ _ | exact pm_b8_in _ | (unfold pm_inI; split <;> omega)) (by first | (unfold pm_inI; omega) | exact pm_and_in _ _ | exact pm_shr_in _ _ | exact pm_or_in _ _ | exact pm_xor_in _ _ | exact pm_shl_in _ _ | exact pm_cmp_in _ _ | exact pm_b8_in _ | (unfold pm_inI; split <;> omega)) (fun h1 => ?_) (fun h1 => ?_)
      · replace h1 : (r : Int) ≤ (r : Int) := h1
        refine g_iinc (ls' := [(2, ((116 : Nat) : Int)), (0, ((r : Int) + 1)), (0, (r : Int)), v3]) lk_262_67 rfl rfl rfl ?_
        refine g_goto (t := 2) lk_262_70 rfl ?_
        exact go _ _ N lay mf (fun i hi => by rw [hN i hi, swq_r x r hi])
      · replace h1 : ¬ ((r : Int) ≤ (r : Int)) := h1
        omega
    | succ n ih =>
      intro c v3 N hi lay mf hN
      obtain ⟨j1, hj1⟩ : ∃ j, j = 6 * r + c := ⟨_, rfl⟩
      obtain ⟨j2, hj2⟩ : ∃ j, j = 6 * c + r := ⟨_, rfl⟩
      have ej1 : (6 : Int) * (r : Int) + (c : Int) = (j1 : Int) := by omega
      have ej2 : (6 : Int) * (c : Int) + (r : Int) = (j2 : Int) := by omega
      obtain ⟨z1, hz1⟩ : ∃ z, pm_ct N 117 j1 = z := ⟨_, rfl⟩
      obtain ⟨z2, hz2⟩ : ∃ z, pm_ct N 117 j2 = z := ⟨_, rfl⟩
      have st := fun i (hi : i < 36) => swq_s hr (show c < r by omega) hN hi
      rw [← hj1, ← hj2, hz1, hz2] at st
      have fd := fun N' => ih (c + 1) (0, z1) N' (by omega)
      clear ih go
      refine g_iload_n lk_262_10 rfl ?_
      refine g_iload_n lk_262_11 rfl ?_
      refine g_icmp (t := 67) lk_262_12 rfl (by first | (unfold pm_inI; omega) | exact pm_and_in _ _ | exact pm_shr_in _ _ | exact pm_or_in _ _ | exact pm_xor_in _ _ | exact pm_shl_in _ _ | exact pm_cmp_in _ _ | exact pm_b8_in _ | (unfold pm_inI; split <;> omega)) (by first | (unfold pm_inI; omega) | exact pm_and_in _ _ | exact pm_shr_in _ _ | exact pm_or_in _ _ | exact pm_xor_in _ _ | exact pm_shl_in _ _ | exact pm_cmp_in _ _ | exact pm_b8_in _ | (unfold pm_inI; split <;> omega)) (fun h1 => ?_) (fun h1 => ?_)
      · replace h1 : (r : Int) ≤ (c : Int) := h1
        omega
      · replace h1 : ¬ ((r : Int) ≤ (c : Int)) := h1
        refine g_aload_n lk_262_15 rfl ?_
        refine g_getfield lk_262_16 rfl (lay.on (by decide) rfl) (v := ((117 : Nat) : Int)) (lay.rf rfl) ?_
        refine g_bipush lk_262_19 ?_
        refine g_iload_n lk_262_21 rfl ?_
        refine g_imul lk_262_22 ?_
        refine g_iload_n lk_262_23 rfl ?_
        refine g_iadd lk_262_24 ?_
        refine g_top (z := ((6 * (r : Int)) + (c : Int))) (z' := (j1 : Int)) (ej1) ?_
        refine m_iaload (u := []) (M := N) lk_262_25 (lay.ay (by decide) rfl) (by omega) (j := j1) (by omega) (v := z1) hz1 ?_
        refine g_istore_n (ls' := [(2, ((116 : Nat) : Int)), (0, (r : Int)), (0, (c : Int)), (0, z1)]) lk_262_26 rfl rfl ?_
        refine g_aload_n lk_262_27 rfl ?_
        refine g_getfield lk_262_28 rfl (lay.on (by decide) rfl) (v := ((117 : Nat) : Int)) (lay.rf rfl) ?_
        refine g_bipush lk_262_31 ?_
        refine g_iload_n lk_262_33 rfl ?_
        refine g_imul lk_262_34 ?_
        refine g_iload_n lk_262_35 rfl ?_
        refine g_iadd lk_262_36 ?_
        refine g_top (z := ((6 * (r : Int)) + (c : Int))) (z' := (j1 : Int)) (ej1) ?_
        refine g_aload_n lk_262_37 rfl ?_
        refine g_getfield lk_262_38 rfl (lay.on (by decide) rfl) (v := ((117 : Nat) : Int)) (lay.rf rfl) ?_
        refine g_bipush lk_262_41 ?_
        refine g_iload_n lk_262_43 rfl ?_
        refine g_imul lk_262_44 ?_
        refine g_iload_n lk_262_45 rfl ?_
        refine g_iadd lk_262_46 ?_
        refine g_top (z := ((6 * (c : Int)) + (r : Int))) (z' := (j2 : Int)) (ej2) ?_
        refine m_iaload (u := []) (M := N) lk_262_47 (lay.ay (by decide) rfl) (by omega) (j := j2) (by omega) (v := z2) hz2 ?_
        have lay2 : Lay (Mu [(117, pm_upd (pm_ct N 117) j1 z2)] N) := lay.muA (l := []) (a := 117) (f := pm_upd (pm_ct N 117) j1 z2) rfl rfl
        refine m_iastore (u := []) (u' := [(117, pm_upd (pm_ct N 117) j1 z2)]) (M := N) lk_262_48 (lay.ay (by decide) rfl) (by omega) (j := j1) (by omega) rfl ?_
        refine g_aload_n lk_262_49 rfl ?_
        refine g_getfield lk_262_50 rfl (lay2.on (by decide) rfl) (v := ((117 : Nat) : Int)) (lay2.rf rfl) ?_
        refine g_bipush lk_262_53 ?_
        refine g_iload_n lk_262_55 rfl ?_
        refine g_imul lk_262_56 ?_
        refine g_iload_n lk_262_57 rfl ?_
        refine g_iadd lk_262_58 ?_
        refine g_top (z := ((6 * (c : Int)) + (r : Int))) (z' := (j2 : Int)) (ej2) ?_
        refine g_iload_n lk_262_59 rfl ?_
        have lay3 : Lay (Mu [(117, pm_upd (pm_upd (pm_ct N 117) j1 z2) j2 z1)] N) := lay2.muA (l := [(117, pm_upd (pm_ct N 117) j1 z2)]) (a := 117) (f := pm_upd (pm_upd (pm_ct N 117) j1 z2) j2 z1) rfl rfl
        refine m_iastore (u := [(117, pm_upd (pm_ct N 117) j1 z2)]) (u' := [(117, pm_upd (pm_upd (pm_ct N 117) j1 z2) j2 z1)]) (M := N) lk_262_60 (lay2.ay (by decide) rfl) (by omega) (j := j2) (by omega) rfl ?_
        refine g_iinc (ls' := [(2, ((116 : Nat) : Int)), (0, (r : Int)), (0, ((c : Int) + 1)), (0, z1)]) lk_262_61 rfl rfl rfl ?_
        refine g_goto (t := 10) lk_262_64 rfl ?_
        refine fd _ lay3 (mf.trans (MF.mu _ _ rfl (fun _ _ => rfl))) (fun i hi => by rw [Mu_ct]; exact st i hi)
  have outer : ∀ (n r : Nat) (v2 v3 : pm_V) (N : pm_M), r + n = 6 → Lay N → MF [117] [] M N → (∀ i, i < 36 → pm_ct N 117 i = (swq x r 0 i : Int)) → Wp d 262 2 [(2, ((116 : Nat) : Int)), (0, (r : Int)), v2, v3] [] N mc ms Q := by
    intro n
    induction n with
    | zero =>
      intro r v2 v3 N hi lay mf hN
      have e : r = 6 := by omega
      rw [e] at hN ⊢
      have n1 : pm_ct N 116 1 = (tR T : Int) := by rw [mf.fd (by decide)]; exact m1
      have n2 : pm_ct N 116 2 = (tC T : Int) := by rw [mf.fd (by decide)]; exact m2
      have n3 : pm_ct N 120 1 = (tA T : Int) := by rw [mf.ct (by decide) (by decide)]; exact m3
      have n4 : pm_ct N 120 2 = (tB T : Int) := by rw [mf.ct (by decide) (by decide)]; exact m4
      have fl0 : ∀ (z1 z2 : Int) (a : Nat), a ∉ [1, 2, 49] → pm_upd (pm_upd (pm_ct N 116) 1 z1) 2 z2 a = pm_ct N 116 a := fun z1 z2 a ha => by
        simp at ha
        rw [pm_upd_ne (by omega), pm_upd_ne (by omega)]
      refine g_iload_n lk_262_2 rfl ?_
      refine g_bipush lk_262_3 ?_
      refine g_icmp (t := 73) lk_262_5 rfl (by first | (unfold pm_inI; omega) | exact pm_and_in _ _ | exact pm_shr_in _ _ | exact pm_or_in _ _ | exact pm_xor_in _ _ | exact pm_shl_in _ _ | exact pm_cmp_in _ _ | exact pm_b8_in _ | (unfold pm_inI; split <;> omega)) (by first | (unfold pm_inI; omega) | exact pm_and_in _ _ | exact pm_shr_in _ _ | exact pm_or_in _ _ | exact pm_xor_in _ _ | exact pm_shl_in _ _ | exact pm_cmp_in _ _ | exact pm_b8_in _ | (unfold pm_inI; split <;> omega)) (fun _ => ?_) (fun h => absurd (show (6 : Int) ≤ (6 : Int) by omega) h)
      refine g_aload_n lk_262_73 rfl ?_
      refine m_getfield (u := []) (M := N) lk_262_74 rfl (lay.on (by decide) rfl) (v := (tR T : Int)) n1 ?_
      refine g_istore_n (ls' := [(2, ((116 : Nat) : Int)), (0, (tR T : Int)), v2, v3]) lk_262_77 rfl rfl ?_
      refine g_aload_n lk_262_78 rfl ?_
      refine g_aload_n lk_262_79 rfl ?_
      refine m_getfield (u := []) (M := N) lk_262_80 rfl (lay.on (by decide) rfl) (v := (tC T : Int)) n2 ?_
      have lay1 : Lay (Mu [(116, pm_upd (pm_ct N 116) 1 (tC T : Int))] N) := lay.muF (l := []) (a := 116) (k := 1) (z := (tC T : Int)) rfl rfl
      refine m_putfield (u := []) (u' := [(116, pm_upd (pm_ct N 116) 1 (tC T : Int))]) (M := N) lk_262_83 rfl (lay.on (by decide) rfl) (fun h => absurd h (by decide)) rfl ?_
      refine g_aload_n lk_262_86 rfl ?_
      refine g_iload_n lk_262_87 rfl ?_
      have lay2 : Lay (Mu [(116, pm_upd (pm_upd (pm_ct N 116) 1 (tC T : Int)) 2 (tR T : Int))] N) := lay1.muF (l := [(116, pm_upd (pm_ct N 116) 1 (tC T : Int))]) (a := 116) (k := 2) (z := (tR T : Int)) rfl rfl
      refine m_putfield (u := [(116, pm_upd (pm_ct N 116) 1 (tC T : Int))]) (u' := [(116, pm_upd (pm_upd (pm_ct N 116) 1 (tC T : Int)) 2 (tR T : Int))]) (M := N) lk_262_88 rfl (lay1.on (by decide) rfl) (fun h => absurd h (by decide)) rfl ?_
      refine g_aload_n lk_262_91 rfl ?_
      refine g_getfield lk_262_92 rfl (lay2.on (by decide) rfl) (v := ((120 : Nat) : Int)) (lay2.rf rfl) ?_
      refine g_iconst lk_262_95 ?_
      refine m_iaload (u := [(116, pm_upd (pm_upd (pm_ct N 116) 1 (tC T : Int)) 2 (tR T : Int))]) (M := N) lk_262_96 (lay2.ay (by decide) rfl) (by omega) (j := 1) (by omega) (v := (tA T : Int)) n3 ?_
      refine g_istore_n (ls' := [(2, ((116 : Nat) : Int)), (0, (tA T : Int)), v2, v3]) lk_262_97 rfl rfl ?_
      refine g_aload_n lk_262_98 rfl ?_
      refine g_getfield lk_262_99 rfl (lay2.on (by decide) rfl) (v := ((120 : Nat) : Int)) (lay2.rf rfl) ?_
      refine g_iconst lk_262_102 ?_
      refine g_aload_n lk_262_103 rfl ?_
      refine g_getfield lk_262_104 rfl (lay2.on (by decide) rfl) (v := ((120 : Nat) : Int)) (lay2.rf rfl) ?_
      refine g_iconst lk_262_107 ?_
      refine m_iaload (u := [(116, pm_upd (pm_upd (pm_ct N 116) 1 (tC T : Int)) 2 (tR T : Int))]) (M := N) lk_262_108 (lay2.ay (by decide) rfl) (by omega) (j := 2) (by omega) (v := (tB T : Int)) n4 ?_
      have lay3 : Lay (Mu [(116, pm_upd (pm_upd (pm_ct N 116) 1 (tC T : Int)) 2 (tR T : Int)), (120, pm_upd (pm_ct N 120) 1 (tB T : Int))] N) := lay2.muA (l := [(116, pm_upd (pm_upd (pm_ct N 116) 1 (tC T : Int)) 2 (tR T : Int))]) (a := 120) (f := pm_upd (pm_ct N 120) 1 (tB T : Int)) rfl rfl
      refine m_iastore (u := [(116, pm_upd (pm_upd (pm_ct N 116) 1 (tC T : Int)) 2 (tR T : Int))]) (u' := [(116, pm_upd (pm_upd (pm_ct N 116) 1 (tC T : Int)) 2 (tR T : Int)), (120, pm_upd (pm_ct N 120) 1 (tB T : Int))]) (M := N) lk_262_109 (lay2.ay (by decide) rfl) (by omega) (j := 1) (by omega) rfl ?_
      refine g_aload_n lk_262_110 rfl ?_
      refine g_getfield lk_262_111 rfl (lay3.on (by decide) rfl) (v := ((120 : Nat) : Int)) (lay3.rf rfl) ?_
      refine g_iconst lk_262_114 ?_
      refine g_iload_n lk_262_115 rfl ?_
      have lay4 : Lay (Mu [(116, pm_upd (pm_upd (pm_ct N 116) 1 (tC T : Int)) 2 (tR T : Int)), (120, pm_upd (pm_upd (pm_ct N 120) 1 (tB T : Int)) 2 (tA T : Int))] N) := lay3.muA (l := [(116, pm_upd (pm_upd (pm_ct N 116) 1 (tC T : Int)) 2 (tR T : Int)), (120, pm_upd (pm_ct N 120) 1 (tB T : Int))]) (a := 120) (f := pm_upd (pm_upd (pm_ct N 120) 1 (tB T : Int)) 2 (tA T : Int)) rfl rfl
      refine m_iastore (u := [(116, pm_upd (pm_upd (pm_ct N 116) 1 (tC T : Int)) 2 (tR T : Int)), (120, pm_upd (pm_ct N 120) 1 (tB T : Int))]) (u' := [(116, pm_upd (pm_upd (pm_ct N 116) 1 (tC T : Int)) 2 (tR T : Int)), (120, pm_upd (pm_upd (pm_ct N 120) 1 (tB T : Int)) 2 (tA T : Int))]) (M := N) lk_262_116 (lay3.ay (by decide) rfl) (by omega) (j := 2) (by omega) rfl ?_
      refine g_iconst lk_262_117 ?_
      refine g_istore_n (ls' := [(2, ((116 : Nat) : Int)), (0, (tA T : Int)), (0, 0), v3]) lk_262_118 rfl rfl ?_
      have fB : MF [117, 120, 123] [1, 2, 49] N (Mu [(116, pm_upd (pm_upd (pm_ct N 116) 1 (tC T : Int)) 2 (tR T : Int)), (120, pm_upd (pm_upd (pm_ct N 120) 1 (tB T : Int)) 2 (tA T : Int))] N) := MF.mu _ _ rfl (fl0 _ _)
      refine kinds 124 0 _ _ _ (by omega) lay4 ((mf.mono (fun a q => by simp at q ⊢; omega) (fun a q => by cases q)).trans fB) ⟨?_, ?_, ?_, ?_, fun i hi => ?_⟩ (fun k hk => ?_)
      · rw [Mu_ct]; rfl
      · rw [Mu_ct]; rfl
      · rw [Mu_ct]; rfl
      · rw [Mu_ct]; rfl
      · rw [Mu_ct]; show pm_ct N 117 i = _; rw [hN i hi, swq_6 x hi, hx]; rfl
      · rw [if_neg (by omega), Mu_ct]; show pm_ct N 123 k = _; rw [mf.ct (by decide) (by decide)]
    | succ n ih =>
      intro r v2 v3 N hi lay mf hN
      refine g_iload_n lk_262_2 rfl ?_
      refine g_bipush lk_262_3 ?_
      refine g_icmp (t := 73) lk_262_5 rfl (by first | (unfold pm_inI; omega) | exact pm_and_in _ _ | exact pm_shr_in _ _ | exact pm_or_in _ _ | exact pm_xor_in _ _ | exact pm_shl_in _ _ | exact pm_cmp_in _ _ | exact pm_b8_in _ | (unfold pm_inI; split <;> omega)) (by first | (unfold pm_inI; omega) | exact pm_and_in _ _ | exact pm_shr_in _ _ | exact pm_or_in _ _ | exact pm_xor_in _ _ | exact pm_shl_in _ _ | exact pm_cmp_in _ _ | exact pm_b8_in _ | (unfold pm_inI; split <;> omega)) (fun h1 => ?_) (fun h1 => ?_)
      · replace h1 : 6 ≤ (r : Int) := h1
        omega
      · replace h1 : ¬ (6 ≤ (r : Int)) := h1
        refine g_iconst lk_262_8 ?_
        refine g_istore_n (ls' := [(2, ((116 : Nat) : Int)), (0, (r : Int)), (0, 0), v3]) lk_262_9 rfl rfl ?_
        exact inner r (by omega) (fun w2 w3 N' l f h => ih (r + 1) w2 w3 N' (by omega) l f h) r 0 _ N (by omega) lay mf hN
  show Wp d 262 0 [(2, ((116 : Nat) : Int)), (9, 0), (9, 0), (9, 0)] [] M mc ms Q
  refine g_iconst lk_262_0 ?_
  refine g_istore_n (ls' := [(2, ((116 : Nat) : Int)), (0, 0), (9, 0), (9, 0)]) lk_262_1 rfl rfl ?_
  exact outer 6 0 _ _ M (by omega) lay0 (MF.refl _ _ _) (fun i hi => by rw [swq_0, hx]; exact m5 i hi)
theorem StM.mf {S K : List Nat} {M N : pm_M} {T : Tab} {Ts : List (List Nd)} {ps dps : Nat → Nat → Nat} {na : Nat} {aa : Nat → Int} (h : StM M T Ts ps dps na aa) (k : MF S K M N) (l : Lay N) (h1 : ∀ a, a ∈ [117, 120, 122, 123, 124, 125, 142, 143, 144, 155, 156] → a ∉ S) (h2 : ∀ a, a ∈ [1, 2, 3, 49, 70] → a ∉ K) : StM N T Ts ps dps na aa := by
  obtain ⟨_, b, c, e, ⟨f, g⟩, i⟩ := h
  exact ⟨l, b.mf k (h2 _ (by decide)) (h2 _ (by decide)) (h1 _ (by decide)) (h1 _ (by decide)), c.mf k (h2 _ (by decide)) (h1 _ (by decide)) (h1 _ (by decide)) (h1 _ (by decide)) (h1 _ (by decide)), e.mf k (h2 _ (by decide)) (h1 _ (by decide)) (h1 _ (by decide)), ⟨f, g.mf k (h2 _ (by decide)) (h1 _ (by decide)) (h1 _ (by decide)) (h1 _ (by decide))⟩, i.mf k (h1 _ (by decide)) (by decide)⟩
set_option maxHeartbeats 4000000 in
theorem c_Mo_turn {d mc ms : Nat} {M : pm_M} {T : Tab} (hT : TabOK T) {Ts : List (List Nd)} {ps dps : Nat → Nat → Nat} {na : Nat} {aa : Nat → Int} (hS : StM M T Ts ps dps na aa) :
    pm_E (d + 1) 263 [(2, ((116 : Nat) : Int))] M mc ms (fun ρ M' => ρ = some (0, (tC T : Int)) ∧ StM M' (Tsw T) (Ts.map Lsw) ps dps (kN na) (kA na aa (-1)) ∧ MF [117, 120, 123, 155, 156] [0, 1, 2, 49, 70] M M') := by
  have lay0 := hS.1
  have th := MF.th (S := [117, 120, 123, 155, 156]) (K := [0, 1, 2, 49, 70]) (by decide) M
  have th0 := MF.th (S := []) (K := [0]) (by decide) M
  have st0 := fun l => hS.mf th0 l (by decide) (by decide)
  have kp := fun (l : Lay (Mu [(116, pm_upd (pm_ct M 116) 0 0)] M)) => c_Mo_keep (d := d) (mc := 0) (ms := 0) (z := -1) (z1 := -1) (z2 := 0) l (st0 l).2.2.2.1 rfl rfl
  show Wp (d + 1) 263 0 [(2, ((116 : Nat) : Int))] [] M mc ms _
  refine g_aload_n lk_263_0 rfl ?_
  refine g_iconst lk_263_1 ?_
  have lay1 : Lay (Mu [(116, pm_upd (pm_ct M 116) 0 0)] M) := lay0.muF (l := []) (a := 116) (k := 0) (z := 0) rfl rfl
  refine m_putfield (u := []) (u' := [(116, pm_upd (pm_ct M 116) 0 0)]) (M := M) lk_263_2 rfl (lay0.on (by decide) rfl) (fun h => absurd h (by decide)) rfl ?_
  refine g_aload_n lk_263_5 rfl ?_
  refine g_iconst lk_263_6 ?_
  refine g_iconst lk_263_7 ?_
  refine g_virtual (p := 116) (Qc := _) lk_263_8 rfl (Nat.le_of_ble_eq_true rfl) rfl rfl (lay1.on (by decide) rfl) (Nat.le_of_ble_eq_true rfl) (Nat.le_of_ble_eq_true rfl) (Nat.zero_le _) (Nat.zero_le _) (kp lay1) ?_
  rintro _ K1 ⟨rfl, layk, f1, ac1⟩
  obtain ⟨_, b1, b2, _, ⟨ff, b4⟩, b5⟩ := st0 lay1
  have st1 : StM K1 T Ts ps dps (kN na) (kA na aa (-1)) := ⟨layk, b1.mf f1 (by decide) (by decide) (by decide) (by decide), b2.mf f1 (by decide) (by decide) (by decide) (by decide) (by decide), ac1, ⟨ff, b4.mf f1 (by decide) (by decide) (by decide) (by decide)⟩, b5.mf f1 (by decide) (by decide)⟩
  have ta := c_Mo_turnsRound (d := d) (mc := 0) (ms := 0) hT st1
  show Wp _ 263 11 [(2, ((116 : Nat) : Int))] [] K1 _ _ _
  refine g_aload_n lk_263_11 rfl ?_
  refine g_virtual (p := 116) (Qc := _) lk_263_12 rfl (Nat.le_of_ble_eq_true rfl) rfl rfl (layk.on (by decide) rfl) (Nat.le_of_ble_eq_true rfl) (Nat.le_of_ble_eq_true rfl) (Nat.zero_le _) (Nat.zero_le _) (ta) ?_
  rintro _ K2 ⟨rfl, st2, f2⟩
  have lay2 := st2.1
  have r1 := st2.2.1.1
  show Wp _ 263 15 [(2, ((116 : Nat) : Int))] [] K2 _ _ _
  refine g_aload_n lk_263_15 rfl ?_
  refine m_getfield (u := []) (M := K2) lk_263_16 rfl (lay2.on (by decide) rfl) (v := (tC T : Int)) r1 ?_
  refine g_ireturn lk_263_19 (fun h => absurd h (by decide)) ?_
  exact ⟨rfl, st2, (th.trans (f1.mono (fun a q => by simp at q ⊢; omega) (fun a q => by simp at q ⊢; omega))).trans (f2.mono (fun a q => by simp at q ⊢; omega) (fun a q => by simp at q ⊢; omega))⟩
set_option maxHeartbeats 4000000 in
theorem c_Mo_undo {d mc ms : Nat} {M : pm_M} {T : Tab} (hT : TabOK T) {Ts : List (List Nd)} {ps dps : Nat → Nat → Nat} {na : Nat} {aa : Nat → Int} (hS : StM M T Ts ps dps na aa) (hO : AcOK aa (tR T) (tC T) na) :
    pm_E (d + 1) 264 [(2, ((116 : Nat) : Int))] M mc ms (fun ρ M' => ρ = some (0, if na = 0 then 0 else 1) ∧ (na = 0 → StM M' T Ts ps dps na aa) ∧ (∀ k, na = k + 1 → StM M' (undT T (aa k)) (undL Ts (aa k)) ps dps k aa) ∧ MF [117, 120, 123, 155, 156] [0, 1, 2, 49, 70] M M') := by
  have lay0 := hS.1
  have th := MF.th (S := [117, 120, 123, 155, 156]) (K := [0, 1, 2, 49, 70]) (by decide) M
  have th0 := MF.th (S := []) (K := [0]) (by decide) M
  have st0 := fun l => hS.mf th0 l (by decide) (by decide)
  obtain ⟨_, hM0, hTs0, hAc0, ⟨ff, hL0⟩, hK0⟩ := id hS
  obtain ⟨n12, h12, ha⟩ := hAc0
  show Wp (d + 1) 264 0 [(2, ((116 : Nat) : Int))] [] M mc ms _
  cases na with
  | zero =>
    have h12' : pm_ct M 116 70 = 0 := h12
    refine g_aload_n lk_264_0 rfl ?_
    refine g_iconst lk_264_1 ?_
    have lay1 : Lay (Mu [(116, pm_upd (pm_ct M 116) 0 0)] M) := lay0.muF (l := []) (a := 116) (k := 0) (z := 0) rfl rfl
    refine m_putfield (u := []) (u' := [(116, pm_upd (pm_ct M 116) 0 0)]) (M := M) lk_264_2 rfl (lay0.on (by decide) rfl) (fun h => absurd h (by decide)) rfl ?_
    refine g_aload_n lk_264_5 rfl ?_
    refine m_getfield (u := [(116, pm_upd (pm_ct M 116) 0 0)]) (M := M) lk_264_6 rfl (lay1.on (by decide) rfl) (v := 0) h12' ?_
    refine g_if (t := 14) lk_264_9 rfl (by first | (unfold pm_inI; omega) | exact pm_and_in _ _ | exact pm_shr_in _ _ | exact pm_or_in _ _ | exact pm_xor_in _ _ | exact pm_shl_in _ _ | exact pm_cmp_in _ _ | exact pm_b8_in _ | (unfold pm_inI; split <;> omega)) (fun h => absurd h (show ¬ (¬ (0 : Int) = (0 : Int)) by omega)) (fun _ => ?_)
    refine g_iconst lk_264_12 ?_
    refine g_ireturn lk_264_13 (fun _ => by omega) ?_
    exact ⟨by rw [if_pos rfl], fun _ => st0 lay1, fun k hk => by omega, th⟩
  | succ k =>
    have ak := ha k (by omega)
    have ek : ((k + 1 : Nat) : Int) - 1 = (k : Int) := by omega
    have fin : ∀ K : pm_M, StM K (undT T (aa k)) (undL Ts (aa k)) ps dps k aa → MF [117, 120, 123, 155, 156] [0, 1, 2, 49, 70] M K → (some ((0 : Nat), (1 : Int)) = some (0, if k + 1 = 0 then 0 else 1) ∧ (k + 1 = 0 → StM K T Ts ps dps (k + 1) aa) ∧ (∀ k', k + 1 = k' + 1 → StM K (undT T (aa k')) (undL Ts (aa k')) ps dps k' aa) ∧ MF [117, 120, 123, 155, 156] [0, 1, 2, 49, 70] M K) := fun K st fr => ⟨by rw [if_neg (by omega)], fun q => by omega, fun k' hk => by
      have e : k' = k := by omega
      rw [e]; exact st, fr⟩
    have fU : ∀ (z1 : Int) (a : Nat), a ∉ [0, 70] → pm_upd (pm_upd (pm_ct M 116) 0 0) 70 z1 a = pm_ct M 116 a := fun z1 a ha => by
      simp at ha
      rw [pm_upd_ne (by omega), pm_upd_ne (by omega)]
    have f1 : MF [] [0, 70] M (Mu [(116, pm_upd (pm_upd (pm_ct M 116) 0 0) 70 (k : Int))] M) := MF.mu _ _ rfl (fU _)
    have st1 : Lay (Mu [(116, pm_upd (pm_upd (pm_ct M 116) 0 0) 70 (k : Int))] M) → StM (Mu [(116, pm_upd (pm_upd (pm_ct M 116) 0 0) 70 (k : Int))] M) T Ts ps dps k aa := fun l => ⟨l, hM0.mf f1 (by decide) (by decide) (by decide) (by decide), hTs0.mf f1 (by decide) (by decide) (by decide) (by decide) (by decide), ⟨by omega, by rw [Mu_ct]; rfl, fun i hi => by rw [Mu_ct, Mu_ct]; exact ha i (by omega)⟩, ⟨ff, hL0.mf f1 (by decide) (by decide) (by decide) (by decide)⟩, hK0.mf f1 (by decide) (by decide)⟩
    rcases hO with ⟨z1, _⟩ | ⟨m, z1, m3, _, _, _⟩
    · rw [z1] at ak fin
      have ak1 : pm_ct M 155 k = -1 := ak.1
      have eT : undT T (-1) = Tsw T := by unfold undT; rw [if_pos rfl]
      have eL : undL Ts (-1) = Ts.map Lsw := by unfold undL; rw [if_pos rfl]
      rw [eT, eL] at fin
      refine g_aload_n lk_264_0 rfl ?_
      refine g_iconst lk_264_1 ?_
      have lay1 : Lay (Mu [(116, pm_upd (pm_ct M 116) 0 0)] M) := lay0.muF (l := []) (a := 116) (k := 0) (z := 0) rfl rfl
      refine m_putfield (u := []) (u' := [(116, pm_upd (pm_ct M 116) 0 0)]) (M := M) lk_264_2 rfl (lay0.on (by decide) rfl) (fun h => absurd h (by decide)) rfl ?_
      refine g_aload_n lk_264_5 rfl ?_
      refine m_getfield (u := [(116, pm_upd (pm_ct M 116) 0 0)]) (M := M) lk_264_6 rfl (lay1.on (by decide) rfl) (v := ((k + 1 : Nat) : Int)) h12 ?_
      refine g_if (t := 14) lk_264_9 rfl (by first | (unfold pm_inI; omega) | exact pm_and_in _ _ | exact pm_shr_in _ _ | exact pm_or_in _ _ | exact pm_xor_in _ _ | exact pm_shl_in _ _ | exact pm_cmp_in _ _ | exact pm_b8_in _ | (unfold pm_inI; split <;> omega)) (fun h2 => ?_) (fun h2 => ?_)
      · replace h2 : ¬ ((k + 1 : Nat) : Int) = 0 := h2
        refine g_aload_n lk_264_14 rfl ?_
        refine g_dup lk_264_15 rfl ?_
        refine m_getfield (u := [(116, pm_upd (pm_ct M 116) 0 0)]) (M := M) lk_264_16 rfl (lay1.on (by decide) rfl) (v := ((k + 1 : Nat) : Int)) h12 ?_
        refine g_iconst lk_264_19 ?_
        refine g_isub lk_264_20 ?_
        refine g_top (z := (((k + 1 : Nat) : Int) - 1)) (z' := (k : Int)) (ek) ?_
        have lay3 : Lay (Mu [(116, pm_upd (pm_upd (pm_ct M 116) 0 0) 70 (k : Int))] M) := lay1.muF (l := [(116, pm_upd (pm_ct M 116) 0 0)]) (a := 116) (k := 70) (z := (k : Int)) rfl rfl
        refine m_putfield (u := [(116, pm_upd (pm_ct M 116) 0 0)]) (u' := [(116, pm_upd (pm_upd (pm_ct M 116) 0 0) 70 (k : Int))]) (M := M) lk_264_21 rfl (lay1.on (by decide) rfl) (fun h => absurd h (by decide)) rfl ?_
        refine g_aload_n lk_264_24 rfl ?_
        refine g_getfield lk_264_25 rfl (lay3.on (by decide) rfl) (v := ((155 : Nat) : Int)) (lay3.rf rfl) ?_
        refine g_aload_n lk_264_28 rfl ?_
        refine m_getfield (u := [(116, pm_upd (pm_upd (pm_ct M 116) 0 0) 70 (k : Int))]) (M := M) lk_264_29 rfl (lay3.on (by decide) rfl) (v := (k : Int)) rfl ?_
        refine m_iaload (u := [(116, pm_upd (pm_upd (pm_ct M 116) 0 0) 70 (k : Int))]) (M := M) lk_264_32 (lay3.ay (by decide) rfl) (by omega) (j := k) (by omega) (v := (-1)) ak1 ?_
        refine g_iconst lk_264_33 ?_
        refine g_icmp (t := 44) lk_264_34 rfl (by first | (unfold pm_inI; omega) | exact pm_and_in _ _ | exact pm_shr_in _ _ | exact pm_or_in _ _ | exact pm_xor_in _ _ | exact pm_shl_in _ _ | exact pm_cmp_in _ _ | exact pm_b8_in _ | (unfold pm_inI; split <;> omega)) (by first | (unfold pm_inI; omega) | exact pm_and_in _ _ | exact pm_shr_in _ _ | exact pm_or_in _ _ | exact pm_xor_in _ _ | exact pm_shl_in _ _ | exact pm_cmp_in _ _ | exact pm_b8_in _ | (unfold pm_inI; split <;> omega)) (fun h => absurd h (show ¬ (¬ (-1 : Int) = (-1 : Int)) by omega)) (fun _ => ?_)
        refine g_aload_n lk_264_37 rfl ?_
        refine g_virtual (p := 116) (Qc := _) lk_264_38 rfl (Nat.le_of_ble_eq_true rfl) rfl rfl (lay3.on (by decide) rfl) (Nat.le_of_ble_eq_true rfl) (Nat.le_of_ble_eq_true rfl) (Nat.zero_le _) (Nat.zero_le _) (c_Mo_turnsRound (d := d) (mc := 0) (ms := 0) hT (st1 lay3)) ?_
        rintro _ K2 ⟨rfl, st2, f2⟩
        have lay2 := st2.1
        show Wp _ 264 41 [(2, ((116 : Nat) : Int))] [] K2 _ _ _
        refine g_goto (t := 72) lk_264_41 rfl ?_
        refine g_iconst lk_264_72 ?_
        refine g_ireturn lk_264_73 (fun _ => by omega) ?_
        exact fin K2 st2 ((f1.mono (fun a q => by cases q) (fun a q => by simp at q ⊢; omega)).trans (f2.mono (fun a q => by simp at q ⊢; omega) (fun a q => by simp at q ⊢; omega)))
      · replace h2 : ¬ (¬ ((k + 1 : Nat) : Int) = 0) := h2
        omega
    · rw [z1] at ak fin
      have eT : undT T (m : Int) = Tput T (m / 11) (m % 11) := by unfold undT; rw [if_neg (by omega)]; rfl
      have eL : undL Ts (m : Int) = Ts := by unfold undL; rw [if_neg (by omega)]
      rw [eT, eL] at fin
      have c1 : acC (m : Int) = ((m / 11 : Nat) : Int) := by unfold acC; rw [if_neg (by omega)]; rfl
      have c2 : acW (m : Int) = ((m % 11 : Nat) : Int) := by unfold acW; rw [if_neg (by omega)]; rfl
      rw [c1, c2] at ak
      obtain ⟨j, hj⟩ : ∃ j, j = m / 11 := ⟨_, rfl⟩
      obtain ⟨v, hv⟩ : ∃ v, v = m % 11 := ⟨_, rfl⟩
      rw [← hj, ← hv] at fin ak
      have j36 : j < 36 := by omega
      have fW : ∀ (z1 z2 : Int) (a : Nat), a ∉ [0, 49, 70] → pm_upd (pm_upd (pm_upd (pm_ct M 116) 0 0) 70 z1) 49 z2 a = pm_ct M 116 a := fun z1 z2 a ha => by
        simp at ha
        rw [pm_upd_ne (by omega), pm_upd_ne (by omega), pm_upd_ne (by omega)]
      refine g_aload_n lk_264_0 rfl ?_
      refine g_iconst lk_264_1 ?_
      have lay1 : Lay (Mu [(116, pm_upd (pm_ct M 116) 0 0)] M) := lay0.muF (l := []) (a := 116) (k := 0) (z := 0) rfl rfl
      refine m_putfield (u := []) (u' := [(116, pm_upd (pm_ct M 116) 0 0)]) (M := M) lk_264_2 rfl (lay0.on (by decide) rfl) (fun h => absurd h (by decide)) rfl ?_
      refine g_aload_n lk_264_5 rfl ?_
      refine m_getfield (u := [(116, pm_upd (pm_ct M 116) 0 0)]) (M := M) lk_264_6 rfl (lay1.on (by decide) rfl) (v := ((k + 1 : Nat) : Int)) h12 ?_
      refine g_if (t := 14) lk_264_9 rfl (by first | (unfold pm_inI; omega) | exact pm_and_in _ _ | exact pm_shr_in _ _ | exact pm_or_in _ _ | exact pm_xor_in _ _ | exact pm_shl_in _ _ | exact pm_cmp_in _ _ | exact pm_b8_in _ | (unfold pm_inI; split <;> omega)) (fun h2 => ?_) (fun h2 => ?_)
      · replace h2 : ¬ ((k + 1 : Nat) : Int) = 0 := h2
        refine g_aload_n lk_264_14 rfl ?_
        refine g_dup lk_264_15 rfl ?_
        refine m_getfield (u := [(116, pm_upd (pm_ct M 116) 0 0)]) (M := M) lk_264_16 rfl (lay1.on (by decide) rfl) (v := ((k + 1 : Nat) : Int)) h12 ?_
        refine g_iconst lk_264_19 ?_
        refine g_isub lk_264_20 ?_
        refine g_top (z := (((k + 1 : Nat) : Int) - 1)) (z' := (k : Int)) (ek) ?_
        have lay3 : Lay (Mu [(116, pm_upd (pm_upd (pm_ct M 116) 0 0) 70 (k : Int))] M) := lay1.muF (l := [(116, pm_upd (pm_ct M 116) 0 0)]) (a := 116) (k := 70) (z := (k : Int)) rfl rfl
        refine m_putfield (u := [(116, pm_upd (pm_ct M 116) 0 0)]) (u' := [(116, pm_upd (pm_upd (pm_ct M 116) 0 0) 70 (k : Int))]) (M := M) lk_264_21 rfl (lay1.on (by decide) rfl) (fun h => absurd h (by decide)) rfl ?_
        refine g_aload_n lk_264_24 rfl ?_
        refine g_getfield lk_264_25 rfl (lay3.on (by decide) rfl) (v := ((155 : Nat) : Int)) (lay3.rf rfl) ?_
        refine g_aload_n lk_264_28 rfl ?_
        refine m_getfield (u := [(116, pm_upd (pm_upd (pm_ct M 116) 0 0) 70 (k : Int))]) (M := M) lk_264_29 rfl (lay3.on (by decide) rfl) (v := (k : Int)) rfl ?_
        refine m_iaload (u := [(116, pm_upd (pm_upd (pm_ct M 116) 0 0) 70 (k : Int))]) (M := M) lk_264_32 (lay3.ay (by decide) rfl) (by omega) (j := k) (by omega) (v := (j : Int)) ak.1 ?_
        refine g_iconst lk_264_33 ?_
        refine g_icmp (t := 44) lk_264_34 rfl (by first | (unfold pm_inI; omega) | exact pm_and_in _ _ | exact pm_shr_in _ _ | exact pm_or_in _ _ | exact pm_xor_in _ _ | exact pm_shl_in _ _ | exact pm_cmp_in _ _ | exact pm_b8_in _ | (unfold pm_inI; split <;> omega)) (by first | (unfold pm_inI; omega) | exact pm_and_in _ _ | exact pm_shr_in _ _ | exact pm_or_in _ _ | exact pm_xor_in _ _ | exact pm_shl_in _ _ | exact pm_cmp_in _ _ | exact pm_b8_in _ | (unfold pm_inI; split <;> omega)) (fun h4 => ?_) (fun h4 => ?_)
        · replace h4 : ¬ (j : Int) = (-1) := h4
          refine g_aload_n lk_264_44 rfl ?_
          refine g_getfield lk_264_45 rfl (lay3.on (by decide) rfl) (v := ((117 : Nat) : Int)) (lay3.rf rfl) ?_
          refine g_aload_n lk_264_48 rfl ?_
          refine g_getfield lk_264_49 rfl (lay3.on (by decide) rfl) (v := ((155 : Nat) : Int)) (lay3.rf rfl) ?_
          refine g_aload_n lk_264_52 rfl ?_
          refine m_getfield (u := [(116, pm_upd (pm_upd (pm_ct M 116) 0 0) 70 (k : Int))]) (M := M) lk_264_53 rfl (lay3.on (by decide) rfl) (v := (k : Int)) rfl ?_
          refine m_iaload (u := [(116, pm_upd (pm_upd (pm_ct M 116) 0 0) 70 (k : Int))]) (M := M) lk_264_56 (lay3.ay (by decide) rfl) (by omega) (j := k) (by omega) (v := (j : Int)) ak.1 ?_
          refine g_aload_n lk_264_57 rfl ?_
          refine g_getfield lk_264_58 rfl (lay3.on (by decide) rfl) (v := ((156 : Nat) : Int)) (lay3.rf rfl) ?_
          refine g_aload_n lk_264_61 rfl ?_
          refine m_getfield (u := [(116, pm_upd (pm_upd (pm_ct M 116) 0 0) 70 (k : Int))]) (M := M) lk_264_62 rfl (lay3.on (by decide) rfl) (v := (k : Int)) rfl ?_
          refine m_iaload (u := [(116, pm_upd (pm_upd (pm_ct M 116) 0 0) 70 (k : Int))]) (M := M) lk_264_65 (lay3.ay (by decide) rfl) (by omega) (j := k) (by omega) (v := (v : Int)) ak.2 ?_
          have lay5 : Lay (Mu [(116, pm_upd (pm_upd (pm_ct M 116) 0 0) 70 (k : Int)), (117, pm_upd (pm_ct M 117) j (v : Int))] M) := lay3.muA (l := [(116, pm_upd (pm_upd (pm_ct M 116) 0 0) 70 (k : Int))]) (a := 117) (f := pm_upd (pm_ct M 117) j (v : Int)) rfl rfl
          refine m_iastore (u := [(116, pm_upd (pm_upd (pm_ct M 116) 0 0) 70 (k : Int))]) (u' := [(116, pm_upd (pm_upd (pm_ct M 116) 0 0) 70 (k : Int)), (117, pm_upd (pm_ct M 117) j (v : Int))]) (M := M) lk_264_66 (lay3.ay (by decide) rfl) (by omega) (j := j) (by omega) rfl ?_
          refine g_aload_n lk_264_67 rfl ?_
          refine g_iconst lk_264_68 ?_
          have lay6 : Lay (Mu [(116, pm_upd (pm_upd (pm_upd (pm_ct M 116) 0 0) 70 (k : Int)) 49 0), (117, pm_upd (pm_ct M 117) j (v : Int))] M) := lay5.muF (l := [(116, pm_upd (pm_upd (pm_ct M 116) 0 0) 70 (k : Int)), (117, pm_upd (pm_ct M 117) j (v : Int))]) (a := 116) (k := 49) (z := 0) rfl rfl
          refine m_putfield (u := [(116, pm_upd (pm_upd (pm_ct M 116) 0 0) 70 (k : Int)), (117, pm_upd (pm_ct M 117) j (v : Int))]) (u' := [(116, pm_upd (pm_upd (pm_upd (pm_ct M 116) 0 0) 70 (k : Int)) 49 0), (117, pm_upd (pm_ct M 117) j (v : Int))]) (M := M) lk_264_69 rfl (lay5.on (by decide) rfl) (fun _ => by omega) rfl ?_
          refine g_iconst lk_264_72 ?_
          refine g_ireturn lk_264_73 (fun _ => by omega) ?_
          have fA : MF [117] [0, 49, 70] M (Mu [(116, pm_upd (pm_upd (pm_upd (pm_ct M 116) 0 0) 70 (k : Int)) 49 0), (117, pm_upd (pm_ct M 117) j (v : Int))] M) := MF.mu _ _ rfl (fW _ _)
          refine fin _ ⟨lay6, ?_, hTs0.mf fA (by decide) (by decide) (by decide) (by decide) (by decide), ⟨by omega, by rw [Mu_ct]; rfl, fun i hi => by rw [fA.ct (by decide) (by decide), fA.ct (by decide) (by decide)]; exact ha i (by omega)⟩, CL_0 _ (by rw [Mu_ct]; rfl), hK0.mf fA (by decide) (by decide)⟩ (fA.mono (fun a q => by simp at q ⊢; omega) (fun a q => by simp at q ⊢; omega))
          obtain ⟨m1, m2, m3', m4, m5⟩ := hM0
          refine ⟨by rw [fA.fd (by decide)]; exact m1, by rw [fA.fd (by decide)]; exact m2, by rw [fA.ct (by decide) (by decide)]; exact m3', by rw [fA.ct (by decide) (by decide)]; exact m4, fun i hi => ?_⟩
          rw [Mu_ct]
          show pm_upd (pm_ct M 117) j (v : Int) i = (((if i = j then v else tX T i) : Nat) : Int)
          by_cases e : i = j
          · rw [e, pm_upd_eq, if_pos rfl]
          · rw [pm_upd_ne e, if_neg e]; exact m5 i hi
        · replace h4 : ¬ (¬ (j : Int) = (-1)) := h4
          omega
      · replace h2 : ¬ (¬ ((k + 1 : Nat) : Int) = 0) := h2
        omega
