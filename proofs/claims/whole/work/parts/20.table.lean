/-! ===== Table ===== -/
theorem Lay.tb {M : pm_M} (h : Lay M) {t : Nat} (ht : t = 4 ∨ t = 24) : pm_on M t 8 ∧ pm_ct M t 0 = ((t + 1 : Nat) : Int) ∧ pm_ay M (t + 1) 100 36 := by
  rcases ht with rfl | rfl
  · exact ⟨h.on (by decide) rfl, h.rf rfl, h.ay (by decide) rfl⟩
  · exact ⟨h.on (by decide) rfl, h.rf rfl, h.ay (by decide) rfl⟩
theorem c_Table_at {d mc ms : Nat} {M : pm_M} (lay : Lay M) {t : Nat} (ht : t = 4 ∨ t = 24) {T : Tab} (hM : TbAt M t T) {r c : Nat} (hr : r < 6) (hc : c < 6) :
    pm_E d 85 [(2, ((t : Nat) : Int)), (0, (r : Int)), (0, (c : Int))] M mc ms (fun ρ M' => ρ = some (0, (tX T (6 * r + c) : Int)) ∧ M' = M) := by
  show Wp d 85 0 [(2, ((t : Nat) : Int)), (0, (r : Int)), (0, (c : Int))] [] M mc ms _
  refine g_aload_n lk_85_0 rfl ?_
  refine g_getfield lk_85_1 rfl (lay.tb ht).1 (v := (((t + 1) : Nat) : Int)) (lay.tb ht).2.1 ?_
  refine g_iload_n lk_85_4 rfl ?_
  refine g_bipush lk_85_5 ?_
  refine g_imul lk_85_7 ?_
  refine g_iload_n lk_85_8 rfl ?_
  refine g_iadd lk_85_9 ?_
  refine g_iaload lk_85_10 (lay.tb ht).2.2 (by omega) (v := pm_ct M (t + 1) ((r * 6) + c)) rfl ?_
  refine g_ireturn lk_85_11 (fun h => absurd h (by decide)) ?_
  refine ⟨?_, rfl⟩
  have h := hM.2.2.2.2 (6 * r + c) (by omega)
  rw [← h]
  congr 3
  omega
theorem c_Table_allRows {d mc ms : Nat} {M : pm_M} (lay : Lay M) {t : Nat} (ht : t = 4 ∨ t = 24) {T : Tab} (hT : TabOK T) (hM : TbAt M t T) :
    pm_E d 86 [(2, ((t : Nat) : Int))] M mc ms (fun ρ M' => ρ = some (0, ((2 ^ tR T - 1 : Nat) : Int)) ∧ M' = M) := by
  show Wp d 86 0 [(2, ((t : Nat) : Int))] [] M mc ms _
  refine g_iconst lk_86_0 ?_
  refine g_aload_n lk_86_1 rfl ?_
  refine g_getfield lk_86_2 rfl (lay.tb ht).1 (v := (tR T : Int)) hM.1 ?_
  refine g_ishl lk_86_5 ?_
  refine g_iconst lk_86_6 ?_
  refine g_isub lk_86_7 ?_
  refine g_ireturn lk_86_8 (fun h => absurd h (by decide)) ?_
  refine ⟨?_, rfl⟩
  rw [pm_shl_1 (by have := hT.1; omega)]
  have := Nat.one_le_two_pow (n := tR T)
  congr 2
  omega
theorem c_Table_allColumns {d mc ms : Nat} {M : pm_M} (lay : Lay M) {t : Nat} (ht : t = 4 ∨ t = 24) {T : Tab} (hT : TabOK T) (hM : TbAt M t T) :
    pm_E d 87 [(2, ((t : Nat) : Int))] M mc ms (fun ρ M' => ρ = some (0, ((2 ^ tC T - 1 : Nat) : Int)) ∧ M' = M) := by
  show Wp d 87 0 [(2, ((t : Nat) : Int))] [] M mc ms _
  refine g_iconst lk_87_0 ?_
  refine g_aload_n lk_87_1 rfl ?_
  refine g_getfield lk_87_2 rfl (lay.tb ht).1 (v := (tC T : Int)) hM.2.1 ?_
  refine g_ishl lk_87_5 ?_
  refine g_iconst lk_87_6 ?_
  refine g_isub lk_87_7 ?_
  refine g_ireturn lk_87_8 (fun h => absurd h (by decide)) ?_
  refine ⟨?_, rfl⟩
  rw [pm_shl_1 (by have := hT.2.1; omega)]
  have := Nat.one_le_two_pow (n := tC T)
  congr 2
  omega
theorem c_Table_isIn {d mc ms : Nat} {M : pm_M} {m s : Nat} (hs : s < 2147483648) (hm : m < 32) :
    pm_E d 95 [(0, (m : Int)), (0, (s : Int))] M mc ms (fun ρ M' => ρ = some (0, if s.testBit m then 1 else 0) ∧ M' = M) := by
  show Wp d 95 0 [(0, (m : Int)), (0, (s : Int))] [] M mc ms _
  refine g_iload_n lk_95_0 rfl ?_
  refine g_iload_n lk_95_1 rfl ?_
  refine g_ishr lk_95_2 ?_
  refine g_iconst lk_95_3 ?_
  refine g_iand lk_95_4 ?_
  refine g_if (t := 12) lk_95_5 rfl (by first | (unfold pm_inI; omega) | exact pm_and_in _ _ | exact pm_shr_in _ _ | exact pm_or_in _ _ | exact pm_xor_in _ _ | exact pm_shl_in _ _ | exact pm_cmp_in _ _ | exact pm_b8_in _ | (unfold pm_inI; split <;> omega)) (fun h1 => ?_) (fun h1 => ?_)
  · replace h1 : (pm_and (pm_shr (s : Int) (m : Int)) 1) = 0 := h1
    refine g_iconst lk_95_12 ?_
    refine g_ireturn lk_95_13 (fun _ => by omega) ?_
    refine ⟨?_, rfl⟩
    rw [pm_bit hs hm] at h1
    split at h1 <;> simp_all
  · replace h1 : ¬ ((pm_and (pm_shr (s : Int) (m : Int)) 1) = 0) := h1
    refine g_iconst lk_95_8 ?_
    refine g_goto (t := 13) lk_95_9 rfl ?_
    refine g_ireturn lk_95_13 (fun _ => by omega) ?_
    refine ⟨?_, rfl⟩
    rw [pm_bit hs hm] at h1
    split at h1 <;> simp_all
set_option maxHeartbeats 4000000 in
theorem c_Table_valuesIn {d mc ms : Nat} {M : pm_M} (lay : Lay M) {t : Nat} (ht : t = 4 ∨ t = 24) {T : Tab} (hT : TabOK T) (hM : TbAt M t T) {rs cs : Nat} (hrs : rs < 64) (hcs : cs < 64) :
    pm_E (d + 1) 88 [(2, ((t : Nat) : Int)), (0, (rs : Int)), (0, (cs : Int))] M mc ms (fun ρ M' => ρ = some (0, ((vIn T rs cs : Nat) : Int)) ∧ M' = M) := by
  obtain ⟨Q, hQ⟩ : ∃ Q : pm_Q, Q = (fun ρ M' => ρ = some (0, ((vIn T rs cs : Nat) : Int)) ∧ M' = M) := ⟨_, rfl⟩
  rw [← hQ]
  have hR := hT.1
  have hC := hT.2.1
  have inner : ∀ (n r c a0 : Nat), c + n = tC T → r < tR T → a0 < 2048 → Wp (d + 1) 88 5 [(2, ((t : Nat) : Int)), (0, (rs : Int)), (0, (cs : Int)), (0, ((vRow T rs cs r a0 (tC T) : Nat) : Int)), (0, ((r + 1 : Nat) : Int)), (0, (tC T : Int))] [] M mc ms Q →
      Wp (d + 1) 88 17 [(2, ((t : Nat) : Int)), (0, (rs : Int)), (0, (cs : Int)), (0, ((vRow T rs cs r a0 c : Nat) : Int)), (0, (r : Int)), (0, (c : Int))] [] M mc ms Q := by
    intro n
    induction n with
    | zero =>
      intro r c a0 hc hr ha k
      refine g_iload lk_88_17 rfl ?_
      refine g_aload_n lk_88_19 rfl ?_
      refine g_getfield lk_88_20 rfl (lay.tb ht).1 (v := (tC T : Int)) hM.2.1 ?_
      refine g_icmp (t := 63) lk_88_23 rfl (by first | (unfold pm_inI; omega) | exact pm_and_in _ _ | exact pm_shr_in _ _ | exact pm_or_in _ _ | exact pm_xor_in _ _ | exact pm_shl_in _ _ | exact pm_cmp_in _ _ | exact pm_b8_in _ | (unfold pm_inI; split <;> omega)) (by first | (unfold pm_inI; omega) | exact pm_and_in _ _ | exact pm_shr_in _ _ | exact pm_or_in _ _ | exact pm_xor_in _ _ | exact pm_shl_in _ _ | exact pm_cmp_in _ _ | exact pm_b8_in _ | (unfold pm_inI; split <;> omega)) (fun h1 => ?_) (fun h1 => ?_)
      · replace h1 : (tC T : Int) ≤ (c : Int) := h1
        refine g_iinc (ls' := [(2, ((t : Nat) : Int)), (0, (rs : Int)), (0, (cs : Int)), (0, ((vRow T rs cs r a0 c : Nat) : Int)), (0, ((r : Int) + 1)), (0, (c : Int))]) lk_88_63 rfl rfl rfl ?_
        refine g_goto (t := 5) lk_88_66 rfl ?_
        rw [show c = tC T by omega]
        exact k
      · replace h1 : ¬ ((tC T : Int) ≤ (c : Int)) := h1
        refine g_iload lk_88_26 rfl ?_
        refine g_iload_n lk_88_28 rfl ?_
        refine g_static (Qc := _) lk_88_29 (by decide) rfl (Nat.le_of_ble_eq_true rfl) rfl rfl (Nat.le_of_ble_eq_true rfl) (Nat.le_of_ble_eq_true rfl) (Nat.zero_le _) (Nat.zero_le _) (c_Table_isIn (by omega) (by omega)) ?_
        rintro _ N2 ⟨rfl, hN2⟩
        rw [hN2]
        show Wp _ 88 32 [(2, ((t : Nat) : Int)), (0, (rs : Int)), (0, (cs : Int)), (0, ((vRow T rs cs r a0 c : Nat) : Int)), (0, (r : Int)), (0, (c : Int))] [(0, (if Nat.testBit rs r then (1 : Int) else 0))] M _ _ _
        refine g_if (t := 57) lk_88_32 rfl (by first | (unfold pm_inI; omega) | exact pm_and_in _ _ | exact pm_shr_in _ _ | exact pm_or_in _ _ | exact pm_xor_in _ _ | exact pm_shl_in _ _ | exact pm_cmp_in _ _ | exact pm_b8_in _ | (unfold pm_inI; split <;> omega)) (fun h3 => ?_) (fun h3 => ?_)
        · replace h3 : (if Nat.testBit rs r then (1 : Int) else 0) = 0 := h3
          refine g_iinc (ls' := [(2, ((t : Nat) : Int)), (0, (rs : Int)), (0, (cs : Int)), (0, ((vRow T rs cs r a0 c : Nat) : Int)), (0, (r : Int)), (0, ((c : Int) + 1))]) lk_88_57 rfl rfl rfl ?_
          refine g_goto (t := 17) lk_88_60 rfl ?_
          omega
        · replace h3 : ¬ ((if Nat.testBit rs r then (1 : Int) else 0) = 0) := h3
          refine g_iload lk_88_35 rfl ?_
          refine g_iload_n lk_88_37 rfl ?_
          refine g_static (Qc := _) lk_88_38 (by decide) rfl (Nat.le_of_ble_eq_true rfl) rfl rfl (Nat.le_of_ble_eq_true rfl) (Nat.le_of_ble_eq_true rfl) (Nat.zero_le _) (Nat.zero_le _) (c_Table_isIn (by omega) (by omega)) ?_
          rintro _ N4 ⟨rfl, hN4⟩
          rw [hN4]
          show Wp _ 88 41 [(2, ((t : Nat) : Int)), (0, (rs : Int)), (0, (cs : Int)), (0, ((vRow T rs cs r a0 c : Nat) : Int)), (0, (r : Int)), (0, (c : Int))] [(0, (if Nat.testBit cs c then (1 : Int) else 0))] M _ _ _
          refine g_if (t := 57) lk_88_41 rfl (by first | (unfold pm_inI; omega) | exact pm_and_in _ _ | exact pm_shr_in _ _ | exact pm_or_in _ _ | exact pm_xor_in _ _ | exact pm_shl_in _ _ | exact pm_cmp_in _ _ | exact pm_b8_in _ | (unfold pm_inI; split <;> omega)) (fun h5 => ?_) (fun h5 => ?_)
          · replace h5 : (if Nat.testBit cs c then (1 : Int) else 0) = 0 := h5
            refine g_iinc (ls' := [(2, ((t : Nat) : Int)), (0, (rs : Int)), (0, (cs : Int)), (0, ((vRow T rs cs r a0 c : Nat) : Int)), (0, (r : Int)), (0, ((c : Int) + 1))]) lk_88_57 rfl rfl rfl ?_
            refine g_goto (t := 17) lk_88_60 rfl ?_
            omega
          · replace h5 : ¬ ((if Nat.testBit cs c then (1 : Int) else 0) = 0) := h5
            refine g_iload_n lk_88_44 rfl ?_
            refine g_iconst lk_88_45 ?_
            refine g_aload_n lk_88_46 rfl ?_
            refine g_iload lk_88_47 rfl ?_
            refine g_iload lk_88_49 rfl ?_
            refine g_virtual (p := t) (Qc := _) lk_88_51 rfl (Nat.le_of_ble_eq_true rfl) rfl rfl (lay.tb ht).1 (Nat.le_of_ble_eq_true rfl) (Nat.le_of_ble_eq_true rfl) (Nat.zero_le _) (Nat.zero_le _) (c_Table_at lay ht hM (by omega) (by omega)) ?_
            rintro _ N6 ⟨rfl, hN6⟩
            rw [hN6]
            show Wp _ 88 54 [(2, ((t : Nat) : Int)), (0, (rs : Int)), (0, (cs : Int)), (0, ((vRow T rs cs r a0 c : Nat) : Int)), (0, (r : Int)), (0, (c : Int))] [(0, (tX T (6 * r + c) : Int)), (0, 1), (0, ((vRow T rs cs r a0 c : Nat) : Int))] M _ _ _
            refine g_ishl lk_88_54 ?_
            refine g_ior lk_88_55 ?_
            refine g_istore_n (ls' := [(2, ((t : Nat) : Int)), (0, (rs : Int)), (0, (cs : Int)), (0, (pm_or ((vRow T rs cs r a0 c : Nat) : Int) (pm_shl 1 (tX T (6 * r + c) : Int)))), (0, (r : Int)), (0, (c : Int))]) lk_88_56 rfl rfl ?_
            refine g_iinc (ls' := [(2, ((t : Nat) : Int)), (0, (rs : Int)), (0, (cs : Int)), (0, (pm_or ((vRow T rs cs r a0 c : Nat) : Int) (pm_shl 1 (tX T (6 * r + c) : Int)))), (0, (r : Int)), (0, ((c : Int) + 1))]) lk_88_57 rfl rfl rfl ?_
            refine g_goto (t := 17) lk_88_60 rfl ?_
            omega
    | succ n ih =>
      intro r c a0 hc hr ha k
      have hv := vRow_lt hT (rs := rs) (cs := cs) (r := r) ha c
      have hx := hT.2.2.1 (6 * r + c)
      refine g_iload lk_88_17 rfl ?_
      refine g_aload_n lk_88_19 rfl ?_
      refine g_getfield lk_88_20 rfl (lay.tb ht).1 (v := (tC T : Int)) hM.2.1 ?_
      refine g_icmp (t := 63) lk_88_23 rfl (by first | (unfold pm_inI; omega) | exact pm_and_in _ _ | exact pm_shr_in _ _ | exact pm_or_in _ _ | exact pm_xor_in _ _ | exact pm_shl_in _ _ | exact pm_cmp_in _ _ | exact pm_b8_in _ | (unfold pm_inI; split <;> omega)) (by first | (unfold pm_inI; omega) | exact pm_and_in _ _ | exact pm_shr_in _ _ | exact pm_or_in _ _ | exact pm_xor_in _ _ | exact pm_shl_in _ _ | exact pm_cmp_in _ _ | exact pm_b8_in _ | (unfold pm_inI; split <;> omega)) (fun h1 => ?_) (fun h1 => ?_)
      · replace h1 : (tC T : Int) ≤ (c : Int) := h1
        refine g_iinc (ls' := [(2, ((t : Nat) : Int)), (0, (rs : Int)), (0, (cs : Int)), (0, ((vRow T rs cs r a0 c : Nat) : Int)), (0, ((r : Int) + 1)), (0, (c : Int))]) lk_88_63 rfl rfl rfl ?_
        refine g_goto (t := 5) lk_88_66 rfl ?_
        omega
      · replace h1 : ¬ ((tC T : Int) ≤ (c : Int)) := h1
        refine g_iload lk_88_26 rfl ?_
        refine g_iload_n lk_88_28 rfl ?_
        refine g_static (Qc := _) lk_88_29 (by decide) rfl (Nat.le_of_ble_eq_true rfl) rfl rfl (Nat.le_of_ble_eq_true rfl) (Nat.le_of_ble_eq_true rfl) (Nat.zero_le _) (Nat.zero_le _) (c_Table_isIn (by omega) (by omega)) ?_
        rintro _ N2 ⟨rfl, hN2⟩
        rw [hN2]
        show Wp _ 88 32 [(2, ((t : Nat) : Int)), (0, (rs : Int)), (0, (cs : Int)), (0, ((vRow T rs cs r a0 c : Nat) : Int)), (0, (r : Int)), (0, (c : Int))] [(0, (if Nat.testBit rs r then (1 : Int) else 0))] M _ _ _
        refine g_if (t := 57) lk_88_32 rfl (by first | (unfold pm_inI; omega) | exact pm_and_in _ _ | exact pm_shr_in _ _ | exact pm_or_in _ _ | exact pm_xor_in _ _ | exact pm_shl_in _ _ | exact pm_cmp_in _ _ | exact pm_b8_in _ | (unfold pm_inI; split <;> omega)) (fun h3 => ?_) (fun h3 => ?_)
        · replace h3 : (if Nat.testBit rs r then (1 : Int) else 0) = 0 := h3
          refine g_iinc (ls' := [(2, ((t : Nat) : Int)), (0, (rs : Int)), (0, (cs : Int)), (0, ((vRow T rs cs r a0 c : Nat) : Int)), (0, (r : Int)), (0, ((c : Int) + 1))]) lk_88_57 rfl rfl rfl ?_
          refine g_goto (t := 17) lk_88_60 rfl ?_
          have e := vRow_s T rs cs r a0 c
          rw [if_neg (by simp_all)] at e
          rw [← e]
          exact ih r (c + 1) a0 (by omega) hr ha k
        · replace h3 : ¬ ((if Nat.testBit rs r then (1 : Int) else 0) = 0) := h3
          refine g_iload lk_88_35 rfl ?_
          refine g_iload_n lk_88_37 rfl ?_
          refine g_static (Qc := _) lk_88_38 (by decide) rfl (Nat.le_of_ble_eq_true rfl) rfl rfl (Nat.le_of_ble_eq_true rfl) (Nat.le_of_ble_eq_true rfl) (Nat.zero_le _) (Nat.zero_le _) (c_Table_isIn (by omega) (by omega)) ?_
          rintro _ N4 ⟨rfl, hN4⟩
          rw [hN4]
          show Wp _ 88 41 [(2, ((t : Nat) : Int)), (0, (rs : Int)), (0, (cs : Int)), (0, ((vRow T rs cs r a0 c : Nat) : Int)), (0, (r : Int)), (0, (c : Int))] [(0, (if Nat.testBit cs c then (1 : Int) else 0))] M _ _ _
          refine g_if (t := 57) lk_88_41 rfl (by first | (unfold pm_inI; omega) | exact pm_and_in _ _ | exact pm_shr_in _ _ | exact pm_or_in _ _ | exact pm_xor_in _ _ | exact pm_shl_in _ _ | exact pm_cmp_in _ _ | exact pm_b8_in _ | (unfold pm_inI; split <;> omega)) (fun h5 => ?_) (fun h5 => ?_)
          · replace h5 : (if Nat.testBit cs c then (1 : Int) else 0) = 0 := h5
            refine g_iinc (ls' := [(2, ((t : Nat) : Int)), (0, (rs : Int)), (0, (cs : Int)), (0, ((vRow T rs cs r a0 c : Nat) : Int)), (0, (r : Int)), (0, ((c : Int) + 1))]) lk_88_57 rfl rfl rfl ?_
            refine g_goto (t := 17) lk_88_60 rfl ?_
            have e := vRow_s T rs cs r a0 c
            rw [if_neg (by simp_all)] at e
            rw [← e]
            exact ih r (c + 1) a0 (by omega) hr ha k
          · replace h5 : ¬ ((if Nat.testBit cs c then (1 : Int) else 0) = 0) := h5
            refine g_iload_n lk_88_44 rfl ?_
            refine g_iconst lk_88_45 ?_
            refine g_aload_n lk_88_46 rfl ?_
            refine g_iload lk_88_47 rfl ?_
            refine g_iload lk_88_49 rfl ?_
            refine g_virtual (p := t) (Qc := _) lk_88_51 rfl (Nat.le_of_ble_eq_true rfl) rfl rfl (lay.tb ht).1 (Nat.le_of_ble_eq_true rfl) (Nat.le_of_ble_eq_true rfl) (Nat.zero_le _) (Nat.zero_le _) (c_Table_at lay ht hM (by omega) (by omega)) ?_
            rintro _ N6 ⟨rfl, hN6⟩
            rw [hN6]
            show Wp _ 88 54 [(2, ((t : Nat) : Int)), (0, (rs : Int)), (0, (cs : Int)), (0, ((vRow T rs cs r a0 c : Nat) : Int)), (0, (r : Int)), (0, (c : Int))] [(0, (tX T (6 * r + c) : Int)), (0, 1), (0, ((vRow T rs cs r a0 c : Nat) : Int))] M _ _ _
            refine g_ishl lk_88_54 ?_
            refine g_ior lk_88_55 ?_
            refine g_istore_n (ls' := [(2, ((t : Nat) : Int)), (0, (rs : Int)), (0, (cs : Int)), (0, (pm_or ((vRow T rs cs r a0 c : Nat) : Int) (pm_shl 1 (tX T (6 * r + c) : Int)))), (0, (r : Int)), (0, (c : Int))]) lk_88_56 rfl rfl ?_
            refine g_iinc (ls' := [(2, ((t : Nat) : Int)), (0, (rs : Int)), (0, (cs : Int)), (0, (pm_or ((vRow T rs cs r a0 c : Nat) : Int) (pm_shl 1 (tX T (6 * r + c) : Int)))), (0, (r : Int)), (0, ((c : Int) + 1))]) lk_88_57 rfl rfl rfl ?_
            refine g_goto (t := 17) lk_88_60 rfl ?_
            have e := vRow_s T rs cs r a0 c
            rw [if_pos (by simp_all)] at e
            rw [pm_shl_1 (by omega), pm_or_n (by omega) (Nat.lt_of_le_of_lt (Nat.pow_le_pow_right (by omega) hx) (by omega)), ← e]
            exact ih r (c + 1) a0 (by omega) hr ha k
  have outer : ∀ (n r : Nat) (v5 : pm_V), r + n = tR T → Wp (d + 1) 88 5 [(2, ((t : Nat) : Int)), (0, (rs : Int)), (0, (cs : Int)), (0, ((vAll T rs cs r : Nat) : Int)), (0, (r : Int)), v5] [] M mc ms Q := by
    intro n
    induction n with
    | zero =>
      intro r v5 hr
      refine g_iload lk_88_5 rfl ?_
      refine g_aload_n lk_88_7 rfl ?_
      refine g_getfield lk_88_8 rfl (lay.tb ht).1 (v := (tR T : Int)) hM.1 ?_
      refine g_icmp (t := 69) lk_88_11 rfl (by first | (unfold pm_inI; omega) | exact pm_and_in _ _ | exact pm_shr_in _ _ | exact pm_or_in _ _ | exact pm_xor_in _ _ | exact pm_shl_in _ _ | exact pm_cmp_in _ _ | exact pm_b8_in _ | (unfold pm_inI; split <;> omega)) (by first | (unfold pm_inI; omega) | exact pm_and_in _ _ | exact pm_shr_in _ _ | exact pm_or_in _ _ | exact pm_xor_in _ _ | exact pm_shl_in _ _ | exact pm_cmp_in _ _ | exact pm_b8_in _ | (unfold pm_inI; split <;> omega)) (fun h1 => ?_) (fun h1 => ?_)
      · replace h1 : (tR T : Int) ≤ (r : Int) := h1
        refine g_iload_n lk_88_69 rfl ?_
        refine g_sipush lk_88_70 ?_
        refine g_iand lk_88_73 ?_
        refine g_ireturn lk_88_74 (fun h => absurd h (by decide)) ?_
        rw [hQ]
        refine ⟨?_, rfl⟩
        have hl := vAll_lt hT (rs := rs) (cs := cs) r
        have h9 : (1023 : Int) = ((1023 : Nat) : Int) := rfl
        rw [h9, pm_and_n (by omega) (by omega)]
        unfold vIn
        rw [show r = tR T by omega]
      · replace h1 : ¬ ((tR T : Int) ≤ (r : Int)) := h1
        refine g_iconst lk_88_14 ?_
        refine g_istore (ls' := [(2, ((t : Nat) : Int)), (0, (rs : Int)), (0, (cs : Int)), (0, ((vAll T rs cs r : Nat) : Int)), (0, (r : Int)), (0, 0)]) lk_88_15 rfl rfl ?_
        omega
    | succ n ih =>
      intro r v5 hr
      have hl := vAll_lt hT (rs := rs) (cs := cs) r
      refine g_iload lk_88_5 rfl ?_
      refine g_aload_n lk_88_7 rfl ?_
      refine g_getfield lk_88_8 rfl (lay.tb ht).1 (v := (tR T : Int)) hM.1 ?_
      refine g_icmp (t := 69) lk_88_11 rfl (by first | (unfold pm_inI; omega) | exact pm_and_in _ _ | exact pm_shr_in _ _ | exact pm_or_in _ _ | exact pm_xor_in _ _ | exact pm_shl_in _ _ | exact pm_cmp_in _ _ | exact pm_b8_in _ | (unfold pm_inI; split <;> omega)) (by first | (unfold pm_inI; omega) | exact pm_and_in _ _ | exact pm_shr_in _ _ | exact pm_or_in _ _ | exact pm_xor_in _ _ | exact pm_shl_in _ _ | exact pm_cmp_in _ _ | exact pm_b8_in _ | (unfold pm_inI; split <;> omega)) (fun h1 => ?_) (fun h1 => ?_)
      · replace h1 : (tR T : Int) ≤ (r : Int) := h1
        refine g_iload_n lk_88_69 rfl ?_
        refine g_sipush lk_88_70 ?_
        refine g_iand lk_88_73 ?_
        refine g_ireturn lk_88_74 (fun h => absurd h (by decide)) ?_
        omega
      · replace h1 : ¬ ((tR T : Int) ≤ (r : Int)) := h1
        refine g_iconst lk_88_14 ?_
        refine g_istore (ls' := [(2, ((t : Nat) : Int)), (0, (rs : Int)), (0, (cs : Int)), (0, ((vAll T rs cs r : Nat) : Int)), (0, (r : Int)), (0, 0)]) lk_88_15 rfl rfl ?_
        exact inner (tC T) r 0 (vAll T rs cs r) (by omega) (by omega) hl (by rw [← vAll_s]; exact ih (r + 1) _ (by omega))
  show Wp (d + 1) 88 0 [(2, ((t : Nat) : Int)), (0, (rs : Int)), (0, (cs : Int)), (9, 0), (9, 0), (9, 0)] [] M mc ms Q
  refine g_iconst lk_88_0 ?_
  refine g_istore_n (ls' := [(2, ((t : Nat) : Int)), (0, (rs : Int)), (0, (cs : Int)), (0, 0), (9, 0), (9, 0)]) lk_88_1 rfl rfl ?_
  refine g_iconst lk_88_2 ?_
  refine g_istore (ls' := [(2, ((t : Nat) : Int)), (0, (rs : Int)), (0, (cs : Int)), (0, 0), (0, 0), (9, 0)]) lk_88_3 rfl rfl ?_
  exact outer (tR T) 0 _ (by omega)
