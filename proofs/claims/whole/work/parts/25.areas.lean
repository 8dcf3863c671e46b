/-! ===== the model's valuesIn; asked cells ===== -/
theorem pm_m1025 : ∀ v : Fin 2048, pm_and ((v : Nat) : Int) (-1025) = (((v : Nat) &&& 1023 : Nat) : Int) := by decide +kernel
theorem pm_or_0 {a : Nat} (h : a < 2147483648) : pm_or (a : Int) 0 = (a : Int) := by
  have := pm_or_n (b := 0) h (by omega)
  rw [Nat.or_zero] at this
  exact this
set_option maxHeartbeats 4000000 in
theorem c_Mo_valuesIn {d mc ms : Nat} {M : pm_M} (lay : Lay M) {T : Tab} (hT : TabOK T) (hM : MoAt M T) {rs cs : Nat} (hrs : rs < 64) (hcs : cs < 64) :
    pm_E (d + 1) 200 [(2, ((116 : Nat) : Int)), (0, (rs : Int)), (0, (cs : Int))] M mc ms (fun ρ M' => ρ = some (0, ((vIn T rs cs : Nat) : Int)) ∧ M' = M) := by
  obtain ⟨Q, hQ⟩ : ∃ Q : pm_Q, Q = (fun ρ M' => ρ = some (0, ((vIn T rs cs : Nat) : Int)) ∧ M' = M) := ⟨_, rfl⟩
  rw [← hQ]
  have hR := hT.1
  have hC := hT.2.1
  have inner : ∀ (n r c a0 : Nat), c + n = tC T → r < tR T → a0 < 2048 → Wp (d + 1) 200 5 [(2, ((116 : Nat) : Int)), (0, (rs : Int)), (0, (cs : Int)), (0, ((vRow T rs cs r a0 (tC T) : Nat) : Int)), (0, ((r + 1 : Nat) : Int)), (0, (tC T : Int))] [] M mc ms Q →
      Wp (d + 1) 200 17 [(2, ((116 : Nat) : Int)), (0, (rs : Int)), (0, (cs : Int)), (0, ((vRow T rs cs r a0 c : Nat) : Int)), (0, (r : Int)), (0, (c : Int))] [] M mc ms Q := by
    intro n
    induction n with
    | zero =>
      intro r c a0 hc hr ha k
      refine g_iload lk_200_17 rfl ?_
      refine g_aload_n lk_200_19 rfl ?_
      refine m_getfield (u := []) (M := M) lk_200_20 rfl (lay.on (by decide) rfl) (v := (tC T : Int)) hM.2.1 ?_
      refine g_icmp (t := 67) lk_200_23 rfl (by first | (unfold pm_inI; omega) | exact pm_and_in _ _ | exact pm_shr_in _ _ | exact pm_or_in _ _ | exact pm_xor_in _ _ | exact pm_shl_in _ _ | exact pm_cmp_in _ _ | exact pm_b8_in _ | (unfold pm_inI; split <;> omega)) (by first | (unfold pm_inI; omega) | exact pm_and_in _ _ | exact pm_shr_in _ _ | exact pm_or_in _ _ | exact pm_xor_in _ _ | exact pm_shl_in _ _ | exact pm_cmp_in _ _ | exact pm_b8_in _ | (unfold pm_inI; split <;> omega)) (fun h1 => ?_) (fun h1 => ?_)
      · replace h1 : (tC T : Int) ≤ (c : Int) := h1
        refine g_iinc (ls' := [(2, ((116 : Nat) : Int)), (0, (rs : Int)), (0, (cs : Int)), (0, ((vRow T rs cs r a0 c : Nat) : Int)), (0, ((r : Int) + 1)), (0, (c : Int))]) lk_200_67 rfl rfl rfl ?_
        refine g_goto (t := 5) lk_200_70 rfl ?_
        rw [show c = tC T by omega]
        exact k
      · replace h1 : ¬ ((tC T : Int) ≤ (c : Int)) := h1
        refine g_iload_n lk_200_26 rfl ?_
        refine g_iload_n lk_200_27 rfl ?_
        refine g_iload lk_200_28 rfl ?_
        refine g_static (Qc := _) lk_200_30 (by decide) rfl (Nat.le_of_ble_eq_true rfl) rfl rfl (Nat.le_of_ble_eq_true rfl) (Nat.le_of_ble_eq_true rfl) (Nat.zero_le _) (Nat.zero_le _) (c_Mo_isOf (by omega) (by omega)) ?_
        rintro _ N2 ⟨rfl, hN2⟩
        rw [hN2]
        show Wp _ 200 33 [(2, ((116 : Nat) : Int)), (0, (rs : Int)), (0, (cs : Int)), (0, ((vRow T rs cs r a0 c : Nat) : Int)), (0, (r : Int)), (0, (c : Int))] [(0, (if Nat.testBit rs r then (1 : Int) else 0)), (0, ((vRow T rs cs r a0 c : Nat) : Int))] M _ _ _
        refine g_if (t := 58) lk_200_33 rfl (by first | (unfold pm_inI; omega) | exact pm_and_in _ _ | exact pm_shr_in _ _ | exact pm_or_in _ _ | exact pm_xor_in _ _ | exact pm_shl_in _ _ | exact pm_cmp_in _ _ | exact pm_b8_in _ | (unfold pm_inI; split <;> omega)) (fun h3 => ?_) (fun h3 => ?_)
        · replace h3 : (if Nat.testBit rs r then (1 : Int) else 0) = 0 := h3
          refine g_iconst lk_200_58 ?_
          refine g_ior lk_200_59 ?_
          refine g_istore_n (ls' := [(2, ((116 : Nat) : Int)), (0, (rs : Int)), (0, (cs : Int)), (0, (pm_or ((vRow T rs cs r a0 c : Nat) : Int) 0)), (0, (r : Int)), (0, (c : Int))]) lk_200_60 rfl rfl ?_
          refine g_iinc (ls' := [(2, ((116 : Nat) : Int)), (0, (rs : Int)), (0, (cs : Int)), (0, (pm_or ((vRow T rs cs r a0 c : Nat) : Int) 0)), (0, (r : Int)), (0, ((c : Int) + 1))]) lk_200_61 rfl rfl rfl ?_
          refine g_goto (t := 17) lk_200_64 rfl ?_
          omega
        · replace h3 : ¬ ((if Nat.testBit rs r then (1 : Int) else 0) = 0) := h3
          refine g_iload_n lk_200_36 rfl ?_
          refine g_iload lk_200_37 rfl ?_
          refine g_static (Qc := _) lk_200_39 (by decide) rfl (Nat.le_of_ble_eq_true rfl) rfl rfl (Nat.le_of_ble_eq_true rfl) (Nat.le_of_ble_eq_true rfl) (Nat.zero_le _) (Nat.zero_le _) (c_Mo_isOf (by omega) (by omega)) ?_
          rintro _ N4 ⟨rfl, hN4⟩
          rw [hN4]
          show Wp _ 200 42 [(2, ((116 : Nat) : Int)), (0, (rs : Int)), (0, (cs : Int)), (0, ((vRow T rs cs r a0 c : Nat) : Int)), (0, (r : Int)), (0, (c : Int))] [(0, (if Nat.testBit cs c then (1 : Int) else 0)), (0, ((vRow T rs cs r a0 c : Nat) : Int))] M _ _ _
          refine g_if (t := 58) lk_200_42 rfl (by first | (unfold pm_inI; omega) | exact pm_and_in _ _ | exact pm_shr_in _ _ | exact pm_or_in _ _ | exact pm_xor_in _ _ | exact pm_shl_in _ _ | exact pm_cmp_in _ _ | exact pm_b8_in _ | (unfold pm_inI; split <;> omega)) (fun h5 => ?_) (fun h5 => ?_)
          · replace h5 : (if Nat.testBit cs c then (1 : Int) else 0) = 0 := h5
            refine g_iconst lk_200_58 ?_
            refine g_ior lk_200_59 ?_
            refine g_istore_n (ls' := [(2, ((116 : Nat) : Int)), (0, (rs : Int)), (0, (cs : Int)), (0, (pm_or ((vRow T rs cs r a0 c : Nat) : Int) 0)), (0, (r : Int)), (0, (c : Int))]) lk_200_60 rfl rfl ?_
            refine g_iinc (ls' := [(2, ((116 : Nat) : Int)), (0, (rs : Int)), (0, (cs : Int)), (0, (pm_or ((vRow T rs cs r a0 c : Nat) : Int) 0)), (0, (r : Int)), (0, ((c : Int) + 1))]) lk_200_61 rfl rfl rfl ?_
            refine g_goto (t := 17) lk_200_64 rfl ?_
            omega
          · replace h5 : ¬ ((if Nat.testBit cs c then (1 : Int) else 0) = 0) := h5
            refine g_iconst lk_200_45 ?_
            refine g_aload_n lk_200_46 rfl ?_
            refine g_iload lk_200_47 rfl ?_
            refine g_iload lk_200_49 rfl ?_
            refine g_virtual (p := 116) (Qc := _) lk_200_51 rfl (Nat.le_of_ble_eq_true rfl) rfl rfl (lay.on (by decide) rfl) (Nat.le_of_ble_eq_true rfl) (Nat.le_of_ble_eq_true rfl) (Nat.zero_le _) (Nat.zero_le _) (c_Mo_cellAt lay hM (by omega) (by omega)) ?_
            rintro _ N6 ⟨rfl, hN6⟩
            rw [hN6]
            show Wp _ 200 54 [(2, ((116 : Nat) : Int)), (0, (rs : Int)), (0, (cs : Int)), (0, ((vRow T rs cs r a0 c : Nat) : Int)), (0, (r : Int)), (0, (c : Int))] [(0, (tX T (6 * r + c) : Int)), (0, 1), (0, ((vRow T rs cs r a0 c : Nat) : Int))] M _ _ _
            refine g_ishl lk_200_54 ?_
            refine g_goto (t := 59) lk_200_55 rfl ?_
            refine g_ior lk_200_59 ?_
            refine g_istore_n (ls' := [(2, ((116 : Nat) : Int)), (0, (rs : Int)), (0, (cs : Int)), (0, (pm_or ((vRow T rs cs r a0 c : Nat) : Int) (pm_shl 1 (tX T (6 * r + c) : Int)))), (0, (r : Int)), (0, (c : Int))]) lk_200_60 rfl rfl ?_
            refine g_iinc (ls' := [(2, ((116 : Nat) : Int)), (0, (rs : Int)), (0, (cs : Int)), (0, (pm_or ((vRow T rs cs r a0 c : Nat) : Int) (pm_shl 1 (tX T (6 * r + c) : Int)))), (0, (r : Int)), (0, ((c : Int) + 1))]) lk_200_61 rfl rfl rfl ?_
            refine g_goto (t := 17) lk_200_64 rfl ?_
            omega
    | succ n ih =>
      intro r c a0 hc hr ha k
      have hv := vRow_lt hT (rs := rs) (cs := cs) (r := r) ha c
      have hx := hT.2.2.1 (6 * r + c)
      have e := vRow_s T rs cs r a0 c
      refine g_iload lk_200_17 rfl ?_
      refine g_aload_n lk_200_19 rfl ?_
      refine m_getfield (u := []) (M := M) lk_200_20 rfl (lay.on (by decide) rfl) (v := (tC T : Int)) hM.2.1 ?_
      refine g_icmp (t := 67) lk_200_23 rfl (by first | (unfold pm_inI; omega) | exact pm_and_in _ _ | exact pm_shr_in _ _ | exact pm_or_in _ _ | exact pm_xor_in _ _ | exact pm_shl_in _ _ | exact pm_cmp_in _ _ | exact pm_b8_in _ | (unfold pm_inI; split <;> omega)) (by first | (unfold pm_inI; omega) | exact pm_and_in _ _ | exact pm_shr_in _ _ | exact pm_or_in _ _ | exact pm_xor_in _ _ | exact pm_shl_in _ _ | exact pm_cmp_in _ _ | exact pm_b8_in _ | (unfold pm_inI; split <;> omega)) (fun h1 => ?_) (fun h1 => ?_)
      · replace h1 : (tC T : Int) ≤ (c : Int) := h1
        refine g_iinc (ls' := [(2, ((116 : Nat) : Int)), (0, (rs : Int)), (0, (cs : Int)), (0, ((vRow T rs cs r a0 c : Nat) : Int)), (0, ((r : Int) + 1)), (0, (c : Int))]) lk_200_67 rfl rfl rfl ?_
        refine g_goto (t := 5) lk_200_70 rfl ?_
        omega
      · replace h1 : ¬ ((tC T : Int) ≤ (c : Int)) := h1
        refine g_iload_n lk_200_26 rfl ?_
        refine g_iload_n lk_200_27 rfl ?_
        refine g_iload lk_200_28 rfl ?_
        refine g_static (Qc := _) lk_200_30 (by decide) rfl (Nat.le_of_ble_eq_true rfl) rfl rfl (Nat.le_of_ble_eq_true rfl) (Nat.le_of_ble_eq_true rfl) (Nat.zero_le _) (Nat.zero_le _) (c_Mo_isOf (by omega) (by omega)) ?_
        rintro _ N2 ⟨rfl, hN2⟩
        rw [hN2]
        show Wp _ 200 33 [(2, ((116 : Nat) : Int)), (0, (rs : Int)), (0, (cs : Int)), (0, ((vRow T rs cs r a0 c : Nat) : Int)), (0, (r : Int)), (0, (c : Int))] [(0, (if Nat.testBit rs r then (1 : Int) else 0)), (0, ((vRow T rs cs r a0 c : Nat) : Int))] M _ _ _
        refine g_if (t := 58) lk_200_33 rfl (by first | (unfold pm_inI; omega) | exact pm_and_in _ _ | exact pm_shr_in _ _ | exact pm_or_in _ _ | exact pm_xor_in _ _ | exact pm_shl_in _ _ | exact pm_cmp_in _ _ | exact pm_b8_in _ | (unfold pm_inI; split <;> omega)) (fun h3 => ?_) (fun h3 => ?_)
        · replace h3 : (if Nat.testBit rs r then (1 : Int) else 0) = 0 := h3
          refine g_iconst lk_200_58 ?_
          refine g_ior lk_200_59 ?_
          refine g_istore_n (ls' := [(2, ((116 : Nat) : Int)), (0, (rs : Int)), (0, (cs : Int)), (0, (pm_or ((vRow T rs cs r a0 c : Nat) : Int) 0)), (0, (r : Int)), (0, (c : Int))]) lk_200_60 rfl rfl ?_
          refine g_iinc (ls' := [(2, ((116 : Nat) : Int)), (0, (rs : Int)), (0, (cs : Int)), (0, (pm_or ((vRow T rs cs r a0 c : Nat) : Int) 0)), (0, (r : Int)), (0, ((c : Int) + 1))]) lk_200_61 rfl rfl rfl ?_
          refine g_goto (t := 17) lk_200_64 rfl ?_
          rw [if_neg (by simp_all)] at e
          rw [pm_or_0 (by omega), ← e]
          exact ih r (c + 1) a0 (by omega) hr ha k
        · replace h3 : ¬ ((if Nat.testBit rs r then (1 : Int) else 0) = 0) := h3
          refine g_iload_n lk_200_36 rfl ?_
          refine g_iload lk_200_37 rfl ?_
          refine g_static (Qc := _) lk_200_39 (by decide) rfl (Nat.le_of_ble_eq_true rfl) rfl rfl (Nat.le_of_ble_eq_true rfl) (Nat.le_of_ble_eq_true rfl) (Nat.zero_le _) (Nat.zero_le _) (c_Mo_isOf (by omega) (by omega)) ?_
          rintro _ N4 ⟨rfl, hN4⟩
          rw [hN4]
          show Wp _ 200 42 [(2, ((116 : Nat) : Int)), (0, (rs : Int)), (0, (cs : Int)), (0, ((vRow T rs cs r a0 c : Nat) : Int)), (0, (r : Int)), (0, (c : Int))] [(0, (if Nat.testBit cs c then (1 : Int) else 0)), (0, ((vRow T rs cs r a0 c : Nat) : Int))] M _ _ _
          refine g_if (t := 58) lk_200_42 rfl (by first | (unfold pm_inI; omega) | exact pm_and_in _ _ | exact pm_shr_in _ _ | exact pm_or_in _ _ | exact pm_xor_in _ _ | exact pm_shl_in _ _ | exact pm_cmp_in _ _ | exact pm_b8_in _ | (unfold pm_inI; split <;> omega)) (fun h5 => ?_) (fun h5 => ?_)
          · replace h5 : (if Nat.testBit cs c then (1 : Int) else 0) = 0 := h5
            refine g_iconst lk_200_58 ?_
            refine g_ior lk_200_59 ?_
            refine g_istore_n (ls' := [(2, ((116 : Nat) : Int)), (0, (rs : Int)), (0, (cs : Int)), (0, (pm_or ((vRow T rs cs r a0 c : Nat) : Int) 0)), (0, (r : Int)), (0, (c : Int))]) lk_200_60 rfl rfl ?_
            refine g_iinc (ls' := [(2, ((116 : Nat) : Int)), (0, (rs : Int)), (0, (cs : Int)), (0, (pm_or ((vRow T rs cs r a0 c : Nat) : Int) 0)), (0, (r : Int)), (0, ((c : Int) + 1))]) lk_200_61 rfl rfl rfl ?_
            refine g_goto (t := 17) lk_200_64 rfl ?_
            rw [if_neg (by simp_all)] at e
            rw [pm_or_0 (by omega), ← e]
            exact ih r (c + 1) a0 (by omega) hr ha k
          · replace h5 : ¬ ((if Nat.testBit cs c then (1 : Int) else 0) = 0) := h5
            refine g_iconst lk_200_45 ?_
            refine g_aload_n lk_200_46 rfl ?_
            refine g_iload lk_200_47 rfl ?_
            refine g_iload lk_200_49 rfl ?_
            refine g_virtual (p := 116) (Qc := _) lk_200_51 rfl (Nat.le_of_ble_eq_true rfl) rfl rfl (lay.on (by decide) rfl) (Nat.le_of_ble_eq_true rfl) (Nat.le_of_ble_eq_true rfl) (Nat.zero_le _) (Nat.zero_le _) (c_Mo_cellAt lay hM (by omega) (by omega)) ?_
            rintro _ N6 ⟨rfl, hN6⟩
            rw [hN6]
            show Wp _ 200 54 [(2, ((116 : Nat) : Int)), (0, (rs : Int)), (0, (cs : Int)), (0, ((vRow T rs cs r a0 c : Nat) : Int)), (0, (r : Int)), (0, (c : Int))] [(0, (tX T (6 * r + c) : Int)), (0, 1), (0, ((vRow T rs cs r a0 c : Nat) : Int))] M _ _ _
            refine g_ishl lk_200_54 ?_
            refine g_goto (t := 59) lk_200_55 rfl ?_
            refine g_ior lk_200_59 ?_
            refine g_istore_n (ls' := [(2, ((116 : Nat) : Int)), (0, (rs : Int)), (0, (cs : Int)), (0, (pm_or ((vRow T rs cs r a0 c : Nat) : Int) (pm_shl 1 (tX T (6 * r + c) : Int)))), (0, (r : Int)), (0, (c : Int))]) lk_200_60 rfl rfl ?_
            refine g_iinc (ls' := [(2, ((116 : Nat) : Int)), (0, (rs : Int)), (0, (cs : Int)), (0, (pm_or ((vRow T rs cs r a0 c : Nat) : Int) (pm_shl 1 (tX T (6 * r + c) : Int)))), (0, (r : Int)), (0, ((c : Int) + 1))]) lk_200_61 rfl rfl rfl ?_
            refine g_goto (t := 17) lk_200_64 rfl ?_
            rw [if_pos (by simp_all)] at e
            rw [pm_shl_1 (by omega), pm_or_n (by omega) (Nat.lt_of_le_of_lt (Nat.pow_le_pow_right (by omega) hx) (by omega)), ← e]
            exact ih r (c + 1) a0 (by omega) hr ha k
  have outer : ∀ (n r : Nat) (v5 : pm_V), r + n = tR T → Wp (d + 1) 200 5 [(2, ((116 : Nat) : Int)), (0, (rs : Int)), (0, (cs : Int)), (0, ((vAll T rs cs r : Nat) : Int)), (0, (r : Int)), v5] [] M mc ms Q := by
    intro n
    induction n with
    | zero =>
      intro r v5 hr
      have hl := vAll_lt hT (rs := rs) (cs := cs) r
      refine g_iload lk_200_5 rfl ?_
      refine g_aload_n lk_200_7 rfl ?_
      refine m_getfield (u := []) (M := M) lk_200_8 rfl (lay.on (by decide) rfl) (v := (tR T : Int)) hM.1 ?_
      refine g_icmp (t := 73) lk_200_11 rfl (by first | (unfold pm_inI; omega) | exact pm_and_in _ _ | exact pm_shr_in _ _ | exact pm_or_in _ _ | exact pm_xor_in _ _ | exact pm_shl_in _ _ | exact pm_cmp_in _ _ | exact pm_b8_in _ | (unfold pm_inI; split <;> omega)) (by first | (unfold pm_inI; omega) | exact pm_and_in _ _ | exact pm_shr_in _ _ | exact pm_or_in _ _ | exact pm_xor_in _ _ | exact pm_shl_in _ _ | exact pm_cmp_in _ _ | exact pm_b8_in _ | (unfold pm_inI; split <;> omega)) (fun h1 => ?_) (fun h1 => ?_)
      · replace h1 : (tR T : Int) ≤ (r : Int) := h1
        refine g_iload_n lk_200_73 rfl ?_
        refine g_sipush lk_200_74 ?_
        refine g_iand lk_200_77 ?_
        refine g_ireturn lk_200_78 (fun h => absurd h (by decide)) ?_
        rw [hQ]
        refine ⟨?_, rfl⟩
        have h9 : pm_and ((vAll T rs cs r : Nat) : Int) (-1025) = ((vAll T rs cs r &&& 1023 : Nat) : Int) := pm_m1025 ⟨_, hl⟩
        rw [h9]
        unfold vIn
        rw [show r = tR T by omega]
      · replace h1 : ¬ ((tR T : Int) ≤ (r : Int)) := h1
        refine g_iconst lk_200_14 ?_
        refine g_istore (ls' := [(2, ((116 : Nat) : Int)), (0, (rs : Int)), (0, (cs : Int)), (0, ((vAll T rs cs r : Nat) : Int)), (0, (r : Int)), (0, 0)]) lk_200_15 rfl rfl ?_
        omega
    | succ n ih =>
      intro r v5 hr
      have hl := vAll_lt hT (rs := rs) (cs := cs) r
      refine g_iload lk_200_5 rfl ?_
      refine g_aload_n lk_200_7 rfl ?_
      refine m_getfield (u := []) (M := M) lk_200_8 rfl (lay.on (by decide) rfl) (v := (tR T : Int)) hM.1 ?_
      refine g_icmp (t := 73) lk_200_11 rfl (by first | (unfold pm_inI; omega) | exact pm_and_in _ _ | exact pm_shr_in _ _ | exact pm_or_in _ _ | exact pm_xor_in _ _ | exact pm_shl_in _ _ | exact pm_cmp_in _ _ | exact pm_b8_in _ | (unfold pm_inI; split <;> omega)) (by first | (unfold pm_inI; omega) | exact pm_and_in _ _ | exact pm_shr_in _ _ | exact pm_or_in _ _ | exact pm_xor_in _ _ | exact pm_shl_in _ _ | exact pm_cmp_in _ _ | exact pm_b8_in _ | (unfold pm_inI; split <;> omega)) (fun h1 => ?_) (fun h1 => ?_)
      · replace h1 : (tR T : Int) ≤ (r : Int) := h1
        refine g_iload_n lk_200_73 rfl ?_
        refine g_sipush lk_200_74 ?_
        refine g_iand lk_200_77 ?_
        refine g_ireturn lk_200_78 (fun h => absurd h (by decide)) ?_
        omega
      · replace h1 : ¬ ((tR T : Int) ≤ (r : Int)) := h1
        refine g_iconst lk_200_14 ?_
        refine g_istore (ls' := [(2, ((116 : Nat) : Int)), (0, (rs : Int)), (0, (cs : Int)), (0, ((vAll T rs cs r : Nat) : Int)), (0, (r : Int)), (0, 0)]) lk_200_15 rfl rfl ?_
        exact inner (tC T) r 0 (vAll T rs cs r) (by omega) (by omega) hl (by rw [← vAll_s]; exact ih (r + 1) _ (by omega))
  show Wp (d + 1) 200 0 [(2, ((116 : Nat) : Int)), (0, (rs : Int)), (0, (cs : Int)), (9, 0), (9, 0), (9, 0)] [] M mc ms Q
  refine g_iconst lk_200_0 ?_
  refine g_istore_n (ls' := [(2, ((116 : Nat) : Int)), (0, (rs : Int)), (0, (cs : Int)), (0, 0), (9, 0), (9, 0)]) lk_200_1 rfl rfl ?_
  refine g_iconst lk_200_2 ?_
  refine g_istore (ls' := [(2, ((116 : Nat) : Int)), (0, (rs : Int)), (0, (cs : Int)), (0, 0), (0, 0), (9, 0)]) lk_200_3 rfl rfl ?_
  exact outer (tR T) 0 _ (by omega)
theorem c_Mo_askedIn {d mc ms : Nat} {M : pm_M} (lay : Lay M) {T : Tab} (hT : TabOK T) (hM : MoAt M T) {rs cs : Nat} (hrs : rs < 64) (hcs : cs < 64) :
    pm_E (d + 2) 202 [(2, ((116 : Nat) : Int)), (0, (rs : Int)), (0, (cs : Int))] M mc ms (fun ρ M' => ρ = some (0, (pop rs : Int) * (pop cs : Int) - (cIn T rs cs 10 : Int)) ∧ M' = M) := by
  show Wp (d + 2) 202 0 [(2, ((116 : Nat) : Int)), (0, (rs : Int)), (0, (cs : Int))] [] M mc ms _
  refine g_iload_n lk_202_0 rfl ?_
  refine g_static (Qc := _) lk_202_1 (by decide) rfl (Nat.le_of_ble_eq_true rfl) rfl rfl (Nat.le_of_ble_eq_true rfl) (Nat.le_of_ble_eq_true rfl) (Nat.zero_le _) (Nat.zero_le _) (c_Mo_bits (by omega)) ?_
  rintro _ N1 ⟨rfl, hN1⟩
  rw [hN1]
  show Wp _ 202 4 [(2, ((116 : Nat) : Int)), (0, (rs : Int)), (0, (cs : Int))] [(0, (pop rs : Int))] M _ _ _
  refine g_iload_n lk_202_4 rfl ?_
  refine g_static (Qc := _) lk_202_5 (by decide) rfl (Nat.le_of_ble_eq_true rfl) rfl rfl (Nat.le_of_ble_eq_true rfl) (Nat.le_of_ble_eq_true rfl) (Nat.zero_le _) (Nat.zero_le _) (c_Mo_bits (by omega)) ?_
  rintro _ N2 ⟨rfl, hN2⟩
  rw [hN2]
  show Wp _ 202 8 [(2, ((116 : Nat) : Int)), (0, (rs : Int)), (0, (cs : Int))] [(0, (pop cs : Int)), (0, (pop rs : Int))] M _ _ _
  refine g_imul lk_202_8 ?_
  refine g_aload_n lk_202_9 rfl ?_
  refine g_iload_n lk_202_10 rfl ?_
  refine g_iload_n lk_202_11 rfl ?_
  refine g_bipush lk_202_12 ?_
  refine g_virtual (p := 116) (Qc := _) lk_202_14 rfl (Nat.le_of_ble_eq_true rfl) rfl rfl (lay.on (by decide) rfl) (Nat.le_of_ble_eq_true rfl) (Nat.le_of_ble_eq_true rfl) (Nat.zero_le _) (Nat.zero_le _) (c_Mo_countIn (v := 10) lay hT hM (by omega) (by omega) (by omega)) ?_
  rintro _ N3 ⟨rfl, hN3⟩
  rw [hN3]
  show Wp _ 202 17 [(2, ((116 : Nat) : Int)), (0, (rs : Int)), (0, (cs : Int))] [(0, (cIn T rs cs 10 : Int)), (0, ((pop rs : Int) * (pop cs : Int)))] M _ _ _
  refine g_isub lk_202_17 ?_
  refine g_ireturn lk_202_18 (fun h => absurd h (by decide)) ?_
  exact ⟨rfl, rfl⟩
/-- the columns of a row that have a value -/
def oRow (T : Tab) (r v : Nat) (n : Nat) : Nat := (List.range n).foldl (fun a c => if tX T (6 * r + c) == v then a ||| 2 ^ c else a) 0
theorem oRow_s (T : Tab) (r v n : Nat) : oRow T r v (n + 1) = if tX T (6 * r + n) == v then oRow T r v n ||| 2 ^ n else oRow T r v n := fo_succ _ _ _
theorem oRow_lt (T : Tab) (r v : Nat) : ∀ n, oRow T r v n < 2 ^ n
  | 0 => (by decide : 0 < 1)
  | n + 1 => by
    have h := oRow_lt T r v n
    have h2 : 2 ^ n < 2 ^ (n + 1) := Nat.pow_lt_pow_right (by omega) (by omega)
    rw [oRow_s]
    split
    · exact Nat.or_lt_two_pow (Nat.lt_trans h h2) h2
    · exact Nat.lt_trans h h2
theorem oRow_64 {T : Tab} (hT : TabOK T) (r v : Nat) {n : Nat} (hn : n ≤ tC T) : oRow T r v n < 64 :=
  Nat.lt_of_lt_of_le (oRow_lt T r v n) (Nat.pow_le_pow_right (n := 2) (by omega) (by have := hT.2.1; omega) : 2 ^ n ≤ 2 ^ 6)
set_option maxHeartbeats 4000000 in
theorem c_Table_columnsOf {d mc ms : Nat} {M : pm_M} (lay : Lay M) {t : Nat} (ht : t = 4 ∨ t = 24) {T : Tab} (hT : TabOK T) (hM : TbAt M t T) {r v : Nat} (hr : r < 6) (hv : v < 11) :
    pm_E (d + 1) 91 [(2, ((t : Nat) : Int)), (0, (r : Int)), (0, (v : Int))] M mc ms (fun ρ M' => ρ = some (0, ((oRow T r v (tC T) : Nat) : Int)) ∧ M' = M) := by
  obtain ⟨Q, hQ⟩ : ∃ Q : pm_Q, Q = (fun ρ M' => ρ = some (0, ((oRow T r v (tC T) : Nat) : Int)) ∧ M' = M) := ⟨_, rfl⟩
  rw [← hQ]
  have hC := hT.2.1
  have loop : ∀ (n c : Nat), c + n = tC T → Wp (d + 1) 91 5 [(2, ((t : Nat) : Int)), (0, (r : Int)), (0, (v : Int)), (0, ((oRow T r v c : Nat) : Int)), (0, (c : Int))] [] M mc ms Q := by
    intro n
    induction n with
    | zero =>
      intro c hc
      refine g_iload lk_91_5 rfl ?_
      refine g_aload_n lk_91_7 rfl ?_
      refine g_getfield lk_91_8 rfl (lay.tb ht).1 (v := (tC T : Int)) hM.2.1 ?_
      refine g_icmp (t := 38) lk_91_11 rfl (by first | (unfold pm_inI; omega) | exact pm_and_in _ _ | exact pm_shr_in _ _ | exact pm_or_in _ _ | exact pm_xor_in _ _ | exact pm_shl_in _ _ | exact pm_cmp_in _ _ | exact pm_b8_in _ | (unfold pm_inI; split <;> omega)) (by first | (unfold pm_inI; omega) | exact pm_and_in _ _ | exact pm_shr_in _ _ | exact pm_or_in _ _ | exact pm_xor_in _ _ | exact pm_shl_in _ _ | exact pm_cmp_in _ _ | exact pm_b8_in _ | (unfold pm_inI; split <;> omega)) (fun h1 => ?_) (fun h1 => ?_)
      · replace h1 : (tC T : Int) ≤ (c : Int) := h1
        refine g_iload_n lk_91_38 rfl ?_
        refine g_ireturn lk_91_39 (fun h => absurd h (by decide)) ?_
        rw [hQ, show c = tC T by omega]
        exact ⟨rfl, rfl⟩
      · replace h1 : ¬ ((tC T : Int) ≤ (c : Int)) := h1
        refine g_aload_n lk_91_14 rfl ?_
        refine g_iload_n lk_91_15 rfl ?_
        refine g_iload lk_91_16 rfl ?_
        refine g_virtual (p := t) (Qc := _) lk_91_18 rfl (Nat.le_of_ble_eq_true rfl) rfl rfl (lay.tb ht).1 (Nat.le_of_ble_eq_true rfl) (Nat.le_of_ble_eq_true rfl) (Nat.zero_le _) (Nat.zero_le _) (c_Table_at lay ht hM (by omega) (by omega)) ?_
        rintro _ N2 ⟨rfl, hN2⟩
        rw [hN2]
        show Wp _ 91 21 [(2, ((t : Nat) : Int)), (0, (r : Int)), (0, (v : Int)), (0, ((oRow T r v c : Nat) : Int)), (0, (c : Int))] [(0, (tX T (6 * r + c) : Int))] M _ _ _
        refine g_iload_n lk_91_21 rfl ?_
        refine g_icmp (t := 32) lk_91_22 rfl (by first | (unfold pm_inI; omega) | exact pm_and_in _ _ | exact pm_shr_in _ _ | exact pm_or_in _ _ | exact pm_xor_in _ _ | exact pm_shl_in _ _ | exact pm_cmp_in _ _ | exact pm_b8_in _ | (unfold pm_inI; split <;> omega)) (by first | (unfold pm_inI; omega) | exact pm_and_in _ _ | exact pm_shr_in _ _ | exact pm_or_in _ _ | exact pm_xor_in _ _ | exact pm_shl_in _ _ | exact pm_cmp_in _ _ | exact pm_b8_in _ | (unfold pm_inI; split <;> omega)) (fun h3 => ?_) (fun h3 => ?_)
        · replace h3 : ¬ (tX T (6 * r + c) : Int) = (v : Int) := h3
          refine g_iinc (ls' := [(2, ((t : Nat) : Int)), (0, (r : Int)), (0, (v : Int)), (0, ((oRow T r v c : Nat) : Int)), (0, ((c : Int) + 1))]) lk_91_32 rfl rfl rfl ?_
          refine g_goto (t := 5) lk_91_35 rfl ?_
          omega
        · replace h3 : ¬ (¬ (tX T (6 * r + c) : Int) = (v : Int)) := h3
          refine g_iload_n lk_91_25 rfl ?_
          refine g_iconst lk_91_26 ?_
          refine g_iload lk_91_27 rfl ?_
          refine g_ishl lk_91_29 ?_
          refine g_ior lk_91_30 ?_
          refine g_istore_n (ls' := [(2, ((t : Nat) : Int)), (0, (r : Int)), (0, (v : Int)), (0, (pm_or ((oRow T r v c : Nat) : Int) (pm_shl 1 (c : Int)))), (0, (c : Int))]) lk_91_31 rfl rfl ?_
          refine g_iinc (ls' := [(2, ((t : Nat) : Int)), (0, (r : Int)), (0, (v : Int)), (0, (pm_or ((oRow T r v c : Nat) : Int) (pm_shl 1 (c : Int)))), (0, ((c : Int) + 1))]) lk_91_32 rfl rfl rfl ?_
          refine g_goto (t := 5) lk_91_35 rfl ?_
          omega
    | succ n ih =>
      intro c hc
      have hx := hT.2.2.1 (6 * r + c)
      have e := oRow_s T r v c
      have hl := oRow_64 hT r v (n := c) (by omega)
      have h2c : 2 ^ c < 2147483648 := Nat.lt_of_lt_of_le (Nat.pow_lt_pow_right (by omega) (by omega : c < 6)) (by decide)
      refine g_iload lk_91_5 rfl ?_
      refine g_aload_n lk_91_7 rfl ?_
      refine g_getfield lk_91_8 rfl (lay.tb ht).1 (v := (tC T : Int)) hM.2.1 ?_
      refine g_icmp (t := 38) lk_91_11 rfl (by first | (unfold pm_inI; omega) | exact pm_and_in _ _ | exact pm_shr_in _ _ | exact pm_or_in _ _ | exact pm_xor_in _ _ | exact pm_shl_in _ _ | exact pm_cmp_in _ _ | exact pm_b8_in _ | (unfold pm_inI; split <;> omega)) (by first | (unfold pm_inI; omega) | exact pm_and_in _ _ | exact pm_shr_in _ _ | exact pm_or_in _ _ | exact pm_xor_in _ _ | exact pm_shl_in _ _ | exact pm_cmp_in _ _ | exact pm_b8_in _ | (unfold pm_inI; split <;> omega)) (fun h1 => ?_) (fun h1 => ?_)
      · replace h1 : (tC T : Int) ≤ (c : Int) := h1
        refine g_iload_n lk_91_38 rfl ?_
        refine g_ireturn lk_91_39 (fun h => absurd h (by decide)) ?_
        omega
      · replace h1 : ¬ ((tC T : Int) ≤ (c : Int)) := h1
        refine g_aload_n lk_91_14 rfl ?_
        refine g_iload_n lk_91_15 rfl ?_
        refine g_iload lk_91_16 rfl ?_
        refine g_virtual (p := t) (Qc := _) lk_91_18 rfl (Nat.le_of_ble_eq_true rfl) rfl rfl (lay.tb ht).1 (Nat.le_of_ble_eq_true rfl) (Nat.le_of_ble_eq_true rfl) (Nat.zero_le _) (Nat.zero_le _) (c_Table_at lay ht hM (by omega) (by omega)) ?_
        rintro _ N2 ⟨rfl, hN2⟩
        rw [hN2]
        show Wp _ 91 21 [(2, ((t : Nat) : Int)), (0, (r : Int)), (0, (v : Int)), (0, ((oRow T r v c : Nat) : Int)), (0, (c : Int))] [(0, (tX T (6 * r + c) : Int))] M _ _ _
        refine g_iload_n lk_91_21 rfl ?_
        refine g_icmp (t := 32) lk_91_22 rfl (by first | (unfold pm_inI; omega) | exact pm_and_in _ _ | exact pm_shr_in _ _ | exact pm_or_in _ _ | exact pm_xor_in _ _ | exact pm_shl_in _ _ | exact pm_cmp_in _ _ | exact pm_b8_in _ | (unfold pm_inI; split <;> omega)) (by first | (unfold pm_inI; omega) | exact pm_and_in _ _ | exact pm_shr_in _ _ | exact pm_or_in _ _ | exact pm_xor_in _ _ | exact pm_shl_in _ _ | exact pm_cmp_in _ _ | exact pm_b8_in _ | (unfold pm_inI; split <;> omega)) (fun h3 => ?_) (fun h3 => ?_)
        · replace h3 : ¬ (tX T (6 * r + c) : Int) = (v : Int) := h3
          refine g_iinc (ls' := [(2, ((t : Nat) : Int)), (0, (r : Int)), (0, (v : Int)), (0, ((oRow T r v c : Nat) : Int)), (0, ((c : Int) + 1))]) lk_91_32 rfl rfl rfl ?_
          refine g_goto (t := 5) lk_91_35 rfl ?_
          rw [if_neg (by simp_all; omega)] at e
          rw [← e]
          exact ih (c + 1) (by omega)
        · replace h3 : ¬ (¬ (tX T (6 * r + c) : Int) = (v : Int)) := h3
          refine g_iload_n lk_91_25 rfl ?_
          refine g_iconst lk_91_26 ?_
          refine g_iload lk_91_27 rfl ?_
          refine g_ishl lk_91_29 ?_
          refine g_ior lk_91_30 ?_
          refine g_istore_n (ls' := [(2, ((t : Nat) : Int)), (0, (r : Int)), (0, (v : Int)), (0, (pm_or ((oRow T r v c : Nat) : Int) (pm_shl 1 (c : Int)))), (0, (c : Int))]) lk_91_31 rfl rfl ?_
          refine g_iinc (ls' := [(2, ((t : Nat) : Int)), (0, (r : Int)), (0, (v : Int)), (0, (pm_or ((oRow T r v c : Nat) : Int) (pm_shl 1 (c : Int)))), (0, ((c : Int) + 1))]) lk_91_32 rfl rfl rfl ?_
          refine g_goto (t := 5) lk_91_35 rfl ?_
          rw [if_pos (by simp_all; omega)] at e
          rw [pm_shl_1 (by omega), pm_or_n (by omega) h2c, ← e]
          exact ih (c + 1) (by omega)
  show Wp (d + 1) 91 0 [(2, ((t : Nat) : Int)), (0, (r : Int)), (0, (v : Int)), (9, 0), (9, 0)] [] M mc ms Q
  refine g_iconst lk_91_0 ?_
  refine g_istore_n (ls' := [(2, ((t : Nat) : Int)), (0, (r : Int)), (0, (v : Int)), (0, 0), (9, 0)]) lk_91_1 rfl rfl ?_
  refine g_iconst lk_91_2 ?_
  refine g_istore (ls' := [(2, ((t : Nat) : Int)), (0, (r : Int)), (0, (v : Int)), (0, 0), (0, 0)]) lk_91_3 rfl rfl ?_
  exact loop (tC T) 0 (by omega)
theorem pm_nand_tab : ∀ a : Fin 64, ∀ b : Fin 64, pm_and ((a : Nat) : Int) (pm_xor ((b : Nat) : Int) (-1)) = (((a : Nat) - ((a : Nat) &&& (b : Nat)) : Nat) : Int) := by decide +kernel
theorem pm_nand {a b : Nat} (ha : a < 64) (hb : b < 64) : pm_and (a : Int) (pm_xor (b : Int) (-1)) = ((a - (a &&& b) : Nat) : Int) := pm_nand_tab ⟨a, ha⟩ ⟨b, hb⟩
/-- a set without another -/
def sDif (a b : Nat) : Nat := a - (a &&& b)
theorem sDif_bit_tab : ∀ a : Fin 64, ∀ b : Fin 64, ∀ k : Fin 6, (sDif (a : Nat) (b : Nat)).testBit (k : Nat) = ((a : Nat).testBit (k : Nat) && !(b : Nat).testBit (k : Nat)) := by decide +kernel
theorem sDif_bit {a b k : Nat} (ha : a < 64) (hb : b < 64) (hk : k < 6) : (sDif a b).testBit k = (a.testBit k && !b.testBit k) := sDif_bit_tab ⟨a, ha⟩ ⟨b, hb⟩ ⟨k, hk⟩
theorem sDif_le (a b : Nat) : sDif a b ≤ a := Nat.sub_le _ _
/-- the columns of a row with another value than this (and not free) -/
def uRow (T : Tab) (r v : Nat) : Nat := sDif (sDif (2 ^ tC T - 1) (oRow T r v (tC T))) (oRow T r 10 (tC T))
theorem tC_64 {T : Tab} (hT : TabOK T) : 2 ^ tC T - 1 < 64 := by
  have h : 2 ^ tC T ≤ 2 ^ 6 := Nat.pow_le_pow_right (by omega) hT.2.1.2
  have : 1 ≤ 2 ^ tC T := Nat.one_le_two_pow
  omega
theorem tR_64 {T : Tab} (hT : TabOK T) : 2 ^ tR T - 1 < 64 := by
  have h : 2 ^ tR T ≤ 2 ^ 6 := Nat.pow_le_pow_right (by omega) hT.1.2
  have : 1 ≤ 2 ^ tR T := Nat.one_le_two_pow
  omega
theorem uRow_64 {T : Tab} (hT : TabOK T) (r v : Nat) : uRow T r v < 64 := Nat.lt_of_le_of_lt (Nat.le_trans (sDif_le _ _) (sDif_le _ _)) (tC_64 hT)
theorem c_Table_columnsUnlike {d mc ms : Nat} {M : pm_M} (lay : Lay M) {t : Nat} (ht : t = 4 ∨ t = 24) {T : Tab} (hT : TabOK T) (hM : TbAt M t T) {r v : Nat} (hr : r < 6) (hv : v < 11) :
    pm_E (d + 2) 92 [(2, ((t : Nat) : Int)), (0, (r : Int)), (0, (v : Int))] M mc ms (fun ρ M' => ρ = some (0, ((uRow T r v : Nat) : Int)) ∧ M' = M) := by
  have h1 := tC_64 hT
  have h2 := oRow_64 hT r v (Nat.le_refl _)
  have h3 := oRow_64 hT r 10 (Nat.le_refl _)
  show Wp (d + 2) 92 0 [(2, ((t : Nat) : Int)), (0, (r : Int)), (0, (v : Int))] [] M mc ms _
  refine g_aload_n lk_92_0 rfl ?_
  refine g_virtual (p := t) (Qc := _) lk_92_1 rfl (Nat.le_of_ble_eq_true rfl) rfl rfl (lay.tb ht).1 (Nat.le_of_ble_eq_true rfl) (Nat.le_of_ble_eq_true rfl) (Nat.zero_le _) (Nat.zero_le _) (c_Table_allColumns lay ht hT hM) ?_
  rintro _ N1 ⟨rfl, hN1⟩
  rw [hN1]
  show Wp _ 92 4 [(2, ((t : Nat) : Int)), (0, (r : Int)), (0, (v : Int))] [(0, ((2 ^ tC T - 1 : Nat) : Int))] M _ _ _
  refine g_aload_n lk_92_4 rfl ?_
  refine g_iload_n lk_92_5 rfl ?_
  refine g_iload_n lk_92_6 rfl ?_
  refine g_virtual (p := t) (Qc := _) lk_92_7 rfl (Nat.le_of_ble_eq_true rfl) rfl rfl (lay.tb ht).1 (Nat.le_of_ble_eq_true rfl) (Nat.le_of_ble_eq_true rfl) (Nat.zero_le _) (Nat.zero_le _) (c_Table_columnsOf (v := v) lay ht hT hM (by omega) (by omega)) ?_
  rintro _ N2 ⟨rfl, hN2⟩
  rw [hN2]
  show Wp _ 92 10 [(2, ((t : Nat) : Int)), (0, (r : Int)), (0, (v : Int))] [(0, ((oRow T r v (tC T) : Nat) : Int)), (0, ((2 ^ tC T - 1 : Nat) : Int))] M _ _ _
  refine g_iconst lk_92_10 ?_
  refine g_ixor lk_92_11 ?_
  refine g_iand lk_92_12 ?_
  refine g_aload_n lk_92_13 rfl ?_
  refine g_iload_n lk_92_14 rfl ?_
  refine g_bipush lk_92_15 ?_
  refine g_virtual (p := t) (Qc := _) lk_92_17 rfl (Nat.le_of_ble_eq_true rfl) rfl rfl (lay.tb ht).1 (Nat.le_of_ble_eq_true rfl) (Nat.le_of_ble_eq_true rfl) (Nat.zero_le _) (Nat.zero_le _) (c_Table_columnsOf (v := 10) lay ht hT hM (by omega) (by omega)) ?_
  rintro _ N3 ⟨rfl, hN3⟩
  rw [hN3]
  show Wp _ 92 20 [(2, ((t : Nat) : Int)), (0, (r : Int)), (0, (v : Int))] [(0, ((oRow T r 10 (tC T) : Nat) : Int)), (0, (pm_and ((2 ^ tC T - 1 : Nat) : Int) (pm_xor ((oRow T r v (tC T) : Nat) : Int) (-1))))] M _ _ _
  refine g_iconst lk_92_20 ?_
  refine g_ixor lk_92_21 ?_
  refine g_iand lk_92_22 ?_
  refine g_ireturn lk_92_23 (fun h => absurd h (by decide)) ?_
  refine ⟨?_, rfl⟩
  rw [pm_nand h1 h2, pm_nand (Nat.lt_of_le_of_lt (Nat.sub_le _ _) h1) h3]
  rfl
/-- the cells of some rows and columns with another value -/
def uIn (T : Tab) (rs cs v : Nat) (n : Nat) : Nat := (List.range n).foldl (fun a r => if rs.testBit r then a + pop (uRow T r v &&& cs) else a) 0
theorem uIn_s (T : Tab) (rs cs v n : Nat) : uIn T rs cs v (n + 1) = if rs.testBit n then uIn T rs cs v n + pop (uRow T n v &&& cs) else uIn T rs cs v n := fo_succ _ _ _
set_option maxHeartbeats 4000000 in
theorem c_Table_unlikeIn {d mc ms : Nat} {M : pm_M} (lay : Lay M) {t : Nat} (ht : t = 4 ∨ t = 24) {T : Tab} (hT : TabOK T) (hM : TbAt M t T) {rs cs v : Nat} (hrs : rs < 64) (hcs : cs < 64) (hv : v < 11) :
    pm_E (d + 3) 90 [(2, ((t : Nat) : Int)), (0, (rs : Int)), (0, (cs : Int)), (0, (v : Int))] M mc ms (fun ρ M' => ρ = some (0, ((uIn T rs cs v (tR T) : Nat) : Int)) ∧ M' = M) := by
  obtain ⟨Q, hQ⟩ : ∃ Q : pm_Q, Q = (fun ρ M' => ρ = some (0, ((uIn T rs cs v (tR T) : Nat) : Int)) ∧ M' = M) := ⟨_, rfl⟩
  rw [← hQ]
  have hR := hT.1
  have loop : ∀ (n r : Nat), r + n = tR T → Wp (d + 3) 90 6 [(2, ((t : Nat) : Int)), (0, (rs : Int)), (0, (cs : Int)), (0, (v : Int)), (0, ((uIn T rs cs v r : Nat) : Int)), (0, (r : Int))] [] M mc ms Q := by
    intro n
    induction n with
    | zero =>
      intro r hr
      refine g_iload lk_90_6 rfl ?_
      refine g_aload_n lk_90_8 rfl ?_
      refine g_getfield lk_90_9 rfl (lay.tb ht).1 (v := (tR T : Int)) hM.1 ?_
      refine g_icmp (t := 47) lk_90_12 rfl (by first | (unfold pm_inI; omega) | exact pm_and_in _ _ | exact pm_shr_in _ _ | exact pm_or_in _ _ | exact pm_xor_in _ _ | exact pm_shl_in _ _ | exact pm_cmp_in _ _ | exact pm_b8_in _ | (unfold pm_inI; split <;> omega)) (by first | (unfold pm_inI; omega) | exact pm_and_in _ _ | exact pm_shr_in _ _ | exact pm_or_in _ _ | exact pm_xor_in _ _ | exact pm_shl_in _ _ | exact pm_cmp_in _ _ | exact pm_b8_in _ | (unfold pm_inI; split <;> omega)) (fun h1 => ?_) (fun h1 => ?_)
      · replace h1 : (tR T : Int) ≤ (r : Int) := h1
        refine g_iload lk_90_47 rfl ?_
        refine g_ireturn lk_90_49 (fun h => absurd h (by decide)) ?_
        rw [hQ, show r = tR T by omega]
        exact ⟨rfl, rfl⟩
      · replace h1 : ¬ ((tR T : Int) ≤ (r : Int)) := h1
        refine g_iload lk_90_15 rfl ?_
        refine g_iload_n lk_90_17 rfl ?_
        refine g_static (Qc := _) lk_90_18 (by decide) rfl (Nat.le_of_ble_eq_true rfl) rfl rfl (Nat.le_of_ble_eq_true rfl) (Nat.le_of_ble_eq_true rfl) (Nat.zero_le _) (Nat.zero_le _) (c_Table_isIn (by omega) (by omega)) ?_
        rintro _ N2 ⟨rfl, hN2⟩
        rw [hN2]
        show Wp _ 90 21 [(2, ((t : Nat) : Int)), (0, (rs : Int)), (0, (cs : Int)), (0, (v : Int)), (0, ((uIn T rs cs v r : Nat) : Int)), (0, (r : Int))] [(0, (if Nat.testBit rs r then (1 : Int) else 0))] M _ _ _
        refine g_if (t := 41) lk_90_21 rfl (by first | (unfold pm_inI; omega) | exact pm_and_in _ _ | exact pm_shr_in _ _ | exact pm_or_in _ _ | exact pm_xor_in _ _ | exact pm_shl_in _ _ | exact pm_cmp_in _ _ | exact pm_b8_in _ | (unfold pm_inI; split <;> omega)) (fun h3 => ?_) (fun h3 => ?_)
        · replace h3 : (if Nat.testBit rs r then (1 : Int) else 0) = 0 := h3
          refine g_iinc (ls' := [(2, ((t : Nat) : Int)), (0, (rs : Int)), (0, (cs : Int)), (0, (v : Int)), (0, ((uIn T rs cs v r : Nat) : Int)), (0, ((r : Int) + 1))]) lk_90_41 rfl rfl rfl ?_
          refine g_goto (t := 6) lk_90_44 rfl ?_
          omega
        · replace h3 : ¬ ((if Nat.testBit rs r then (1 : Int) else 0) = 0) := h3
          refine g_iload lk_90_24 rfl ?_
          refine g_aload_n lk_90_26 rfl ?_
          refine g_iload lk_90_27 rfl ?_
          refine g_iload_n lk_90_29 rfl ?_
          refine g_virtual (p := t) (Qc := _) lk_90_30 rfl (Nat.le_of_ble_eq_true rfl) rfl rfl (lay.tb ht).1 (Nat.le_of_ble_eq_true rfl) (Nat.le_of_ble_eq_true rfl) (Nat.zero_le _) (Nat.zero_le _) (c_Table_columnsUnlike lay ht hT hM (by omega) (by omega)) ?_
          rintro _ N4 ⟨rfl, hN4⟩
          rw [hN4]
          show Wp _ 90 33 [(2, ((t : Nat) : Int)), (0, (rs : Int)), (0, (cs : Int)), (0, (v : Int)), (0, ((uIn T rs cs v r : Nat) : Int)), (0, (r : Int))] [(0, ((uRow T r v : Nat) : Int)), (0, ((uIn T rs cs v r : Nat) : Int))] M _ _ _
          refine g_iload_n lk_90_33 rfl ?_
          refine g_iand lk_90_34 ?_
          omega
    | succ n ih =>
      intro r hr
      have e := uIn_s T rs cs v r
      have hu := uRow_64 hT r v
      have hand : pm_and ((uRow T r v : Nat) : Int) (cs : Int) = ((uRow T r v &&& cs : Nat) : Int) := pm_and_n (by omega) (by omega)
      have hlt : uRow T r v &&& cs < 1024 := Nat.lt_of_le_of_lt Nat.and_le_left (by omega)
      refine g_iload lk_90_6 rfl ?_
      refine g_aload_n lk_90_8 rfl ?_
      refine g_getfield lk_90_9 rfl (lay.tb ht).1 (v := (tR T : Int)) hM.1 ?_
      refine g_icmp (t := 47) lk_90_12 rfl (by first | (unfold pm_inI; omega) | exact pm_and_in _ _ | exact pm_shr_in _ _ | exact pm_or_in _ _ | exact pm_xor_in _ _ | exact pm_shl_in _ _ | exact pm_cmp_in _ _ | exact pm_b8_in _ | (unfold pm_inI; split <;> omega)) (by first | (unfold pm_inI; omega) | exact pm_and_in _ _ | exact pm_shr_in _ _ | exact pm_or_in _ _ | exact pm_xor_in _ _ | exact pm_shl_in _ _ | exact pm_cmp_in _ _ | exact pm_b8_in _ | (unfold pm_inI; split <;> omega)) (fun h1 => ?_) (fun h1 => ?_)
      · replace h1 : (tR T : Int) ≤ (r : Int) := h1
        refine g_iload lk_90_47 rfl ?_
        refine g_ireturn lk_90_49 (fun h => absurd h (by decide)) ?_
        omega
      · replace h1 : ¬ ((tR T : Int) ≤ (r : Int)) := h1
        refine g_iload lk_90_15 rfl ?_
        refine g_iload_n lk_90_17 rfl ?_
        refine g_static (Qc := _) lk_90_18 (by decide) rfl (Nat.le_of_ble_eq_true rfl) rfl rfl (Nat.le_of_ble_eq_true rfl) (Nat.le_of_ble_eq_true rfl) (Nat.zero_le _) (Nat.zero_le _) (c_Table_isIn (by omega) (by omega)) ?_
        rintro _ N2 ⟨rfl, hN2⟩
        rw [hN2]
        show Wp _ 90 21 [(2, ((t : Nat) : Int)), (0, (rs : Int)), (0, (cs : Int)), (0, (v : Int)), (0, ((uIn T rs cs v r : Nat) : Int)), (0, (r : Int))] [(0, (if Nat.testBit rs r then (1 : Int) else 0))] M _ _ _
        refine g_if (t := 41) lk_90_21 rfl (by first | (unfold pm_inI; omega) | exact pm_and_in _ _ | exact pm_shr_in _ _ | exact pm_or_in _ _ | exact pm_xor_in _ _ | exact pm_shl_in _ _ | exact pm_cmp_in _ _ | exact pm_b8_in _ | (unfold pm_inI; split <;> omega)) (fun h3 => ?_) (fun h3 => ?_)
        · replace h3 : (if Nat.testBit rs r then (1 : Int) else 0) = 0 := h3
          refine g_iinc (ls' := [(2, ((t : Nat) : Int)), (0, (rs : Int)), (0, (cs : Int)), (0, (v : Int)), (0, ((uIn T rs cs v r : Nat) : Int)), (0, ((r : Int) + 1))]) lk_90_41 rfl rfl rfl ?_
          refine g_goto (t := 6) lk_90_44 rfl ?_
          rw [if_neg (by simp_all)] at e
          rw [← e]
          exact ih (r + 1) (by omega)
        · replace h3 : ¬ ((if Nat.testBit rs r then (1 : Int) else 0) = 0) := h3
          refine g_iload lk_90_24 rfl ?_
          refine g_aload_n lk_90_26 rfl ?_
          refine g_iload lk_90_27 rfl ?_
          refine g_iload_n lk_90_29 rfl ?_
          refine g_virtual (p := t) (Qc := _) lk_90_30 rfl (Nat.le_of_ble_eq_true rfl) rfl rfl (lay.tb ht).1 (Nat.le_of_ble_eq_true rfl) (Nat.le_of_ble_eq_true rfl) (Nat.zero_le _) (Nat.zero_le _) (c_Table_columnsUnlike lay ht hT hM (by omega) (by omega)) ?_
          rintro _ N4 ⟨rfl, hN4⟩
          rw [hN4]
          show Wp _ 90 33 [(2, ((t : Nat) : Int)), (0, (rs : Int)), (0, (cs : Int)), (0, (v : Int)), (0, ((uIn T rs cs v r : Nat) : Int)), (0, (r : Int))] [(0, ((uRow T r v : Nat) : Int)), (0, ((uIn T rs cs v r : Nat) : Int))] M _ _ _
          refine g_iload_n lk_90_33 rfl ?_
          refine g_iand lk_90_34 ?_
          refine g_static (Qc := _) lk_90_35 (by decide) rfl (Nat.le_of_ble_eq_true rfl) rfl rfl (Nat.le_of_ble_eq_true rfl) (Nat.le_of_ble_eq_true rfl) (Nat.zero_le _) (Nat.zero_le _) ((by rw [hand]; exact c_Integer_bitCount hlt)) ?_
          rintro _ N5 ⟨rfl, hN5⟩
          rw [hN5]
          show Wp _ 90 38 [(2, ((t : Nat) : Int)), (0, (rs : Int)), (0, (cs : Int)), (0, (v : Int)), (0, ((uIn T rs cs v r : Nat) : Int)), (0, (r : Int))] [(0, (pop (uRow T r v &&& cs) : Int)), (0, ((uIn T rs cs v r : Nat) : Int))] M _ _ _
          refine g_iadd lk_90_38 ?_
          refine g_istore (ls' := [(2, ((t : Nat) : Int)), (0, (rs : Int)), (0, (cs : Int)), (0, (v : Int)), (0, (((uIn T rs cs v r : Nat) : Int) + (pop (uRow T r v &&& cs) : Int))), (0, (r : Int))]) lk_90_39 rfl rfl ?_
          refine g_iinc (ls' := [(2, ((t : Nat) : Int)), (0, (rs : Int)), (0, (cs : Int)), (0, (v : Int)), (0, (((uIn T rs cs v r : Nat) : Int) + (pop (uRow T r v &&& cs) : Int))), (0, ((r : Int) + 1))]) lk_90_41 rfl rfl rfl ?_
          refine g_goto (t := 6) lk_90_44 rfl ?_
          rw [if_pos (by simp_all)] at e
          rw [← Int.natCast_add, ← e]
          exact ih (r + 1) (by omega)
  show Wp (d + 3) 90 0 [(2, ((t : Nat) : Int)), (0, (rs : Int)), (0, (cs : Int)), (0, (v : Int)), (9, 0), (9, 0)] [] M mc ms Q
  refine g_iconst lk_90_0 ?_
  refine g_istore (ls' := [(2, ((t : Nat) : Int)), (0, (rs : Int)), (0, (cs : Int)), (0, (v : Int)), (0, 0), (9, 0)]) lk_90_1 rfl rfl ?_
  refine g_iconst lk_90_3 ?_
  refine g_istore (ls' := [(2, ((t : Nat) : Int)), (0, (rs : Int)), (0, (cs : Int)), (0, (v : Int)), (0, 0), (0, 0)]) lk_90_4 rfl rfl ?_
  exact loop (tR T) 0 (by omega)
theorem c_Table_filledIn {d mc ms : Nat} {M : pm_M} (lay : Lay M) {t : Nat} (ht : t = 4 ∨ t = 24) {T : Tab} (hT : TabOK T) (hM : TbAt M t T) {rs cs : Nat} (hrs : rs < 64) (hcs : cs < 64) :
    pm_E (d + 4) 89 [(2, ((t : Nat) : Int)), (0, (rs : Int)), (0, (cs : Int))] M mc ms (fun ρ M' => ρ = some (0, ((uIn T rs cs 10 (tR T) : Nat) : Int)) ∧ M' = M) := by
  show Wp (d + 4) 89 0 [(2, ((t : Nat) : Int)), (0, (rs : Int)), (0, (cs : Int))] [] M mc ms _
  refine g_aload_n lk_89_0 rfl ?_
  refine g_iload_n lk_89_1 rfl ?_
  refine g_iload_n lk_89_2 rfl ?_
  refine g_bipush lk_89_3 ?_
  refine g_virtual (p := t) (Qc := _) lk_89_5 rfl (Nat.le_of_ble_eq_true rfl) rfl rfl (lay.tb ht).1 (Nat.le_of_ble_eq_true rfl) (Nat.le_of_ble_eq_true rfl) (Nat.zero_le _) (Nat.zero_le _) (c_Table_unlikeIn (v := 10) lay ht hT hM (by omega) (by omega) (by omega)) ?_
  rintro _ N1 ⟨rfl, hN1⟩
  rw [hN1]
  show Wp _ 89 8 [(2, ((t : Nat) : Int)), (0, (rs : Int)), (0, (cs : Int))] [(0, ((uIn T rs cs 10 (tR T) : Nat) : Int))] M _ _ _
  refine g_ireturn lk_89_8 (fun h => absurd h (by decide)) ?_
  exact ⟨rfl, rfl⟩
