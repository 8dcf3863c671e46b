/-! ===== around ===== -/
def aAll (T : Tab) (v r c n : Nat) : Nat := (List.range n).foldl (fun a i => if (i + 1).testBit r && (oC T (i + 1) v).testBit c then max a (nV T (i + 1) (oC T (i + 1) v) v) else a) 0
theorem aAll_s (T : Tab) (v r c n : Nat) : aAll T v r c (n + 1) = if (n + 1).testBit r && (oC T (n + 1) v).testBit c then max (aAll T v r c n) (nV T (n + 1) (oC T (n + 1) v) v) else aAll T v r c n := fo_succ _ _ _
theorem aAll_36 {T : Tab} (hT : TabOK T) (v r c : Nat) : ∀ n, aAll T v r c n ≤ 36
  | 0 => (by decide : 0 ≤ 36)
  | n + 1 => by
    have h1 := aAll_36 hT v r c n
    have h2 := nV_36 hT (n + 1) (oC T (n + 1) v) v
    rw [aAll_s]
    split <;> omega
set_option maxHeartbeats 4000000 in
theorem c_Patches_mostWith {d mc ms : Nat} {M : pm_M} (lay : Lay M) {T : Tab} (hT : TabOK T) (hM : TbAt M 24 T) {v r c : Nat} (hP : PaAt M T v) (hr : r < 6) (hc : c < 6) :
    pm_E (d + 2) 47 [(2, ((28 : Nat) : Int)), (0, (r : Int)), (0, (c : Int))] M mc ms (fun ρ M' => ρ = some (0, (aAll T v r c (2 ^ tR T - 1) : Int)) ∧ M' = M) := by
  obtain ⟨Q, hQ⟩ : ∃ Q : pm_Q, Q = (fun ρ M' => ρ = some (0, (aAll T v r c (2 ^ tR T - 1) : Int)) ∧ M' = M) := ⟨_, rfl⟩
  rw [← hQ]
  have ht : (24 : Nat) = 4 ∨ (24 : Nat) = 24 := Or.inr rfl
  have hR := tR_64 hT
  have loop : ∀ (n i : Nat) (v5 : pm_V), i + n = 2 ^ tR T - 1 → Wp (d + 2) 47 5 [(2, ((28 : Nat) : Int)), (0, (r : Int)), (0, (c : Int)), (0, (aAll T v r c i : Int)), (0, ((i + 1 : Nat) : Int)), v5] [] M mc ms Q := by
    intro n
    induction n with
    | zero =>
      intro i v5 hi
      have ei : i = 2 ^ tR T - 1 := by omega
      refine g_iload lk_47_5 rfl ?_
      refine g_aload_n lk_47_7 rfl ?_
      refine g_getfield lk_47_8 rfl (lay.on (by decide) rfl) (v := ((24 : Nat) : Int)) (lay.rf rfl) ?_
      refine g_virtual (p := 24) (Qc := _) lk_47_11 rfl (Nat.le_of_ble_eq_true rfl) rfl rfl (lay.on (by decide) rfl) (Nat.le_of_ble_eq_true rfl) (Nat.le_of_ble_eq_true rfl) (Nat.zero_le _) (Nat.zero_le _) (c_Table_allRows lay ht hT hM) ?_
      rintro _ N1 ⟨rfl, hN1⟩
      rw [hN1]
      show Wp _ 47 14 [(2, ((28 : Nat) : Int)), (0, (r : Int)), (0, (c : Int)), (0, (aAll T v r c i : Int)), (0, ((i + 1 : Nat) : Int)), v5] [(0, ((2 ^ tR T - 1 : Nat) : Int)), (0, ((i + 1 : Nat) : Int))] M _ _ _
      refine g_icmp (t := 65) lk_47_14 rfl (by first | (unfold pm_inI; omega) | exact pm_and_in _ _ | exact pm_shr_in _ _ | exact pm_or_in _ _ | exact pm_xor_in _ _ | exact pm_shl_in _ _ | exact pm_cmp_in _ _ | exact pm_b8_in _ | (unfold pm_inI; split <;> omega)) (by first | (unfold pm_inI; omega) | exact pm_and_in _ _ | exact pm_shr_in _ _ | exact pm_or_in _ _ | exact pm_xor_in _ _ | exact pm_shl_in _ _ | exact pm_cmp_in _ _ | exact pm_b8_in _ | (unfold pm_inI; split <;> omega)) (fun h2 => ?_) (fun h2 => ?_)
      · replace h2 : ((2 ^ tR T - 1 : Nat) : Int) < ((i + 1 : Nat) : Int) := h2
        refine g_iload_n lk_47_65 rfl ?_
        refine g_ireturn lk_47_66 (fun h => absurd h (by decide)) ?_
        rw [hQ, ei]
        exact ⟨rfl, rfl⟩
      · replace h2 : ¬ (((2 ^ tR T - 1 : Nat) : Int) < ((i + 1 : Nat) : Int)) := h2
        omega
    | succ n ih =>
      intro i v5 hi
      have e := aAll_s T v r c i
      have k1 := oC_64 hT (i + 1) v
      have k2 := aAll_36 hT v r c i
      have k3 := nV_36 hT (i + 1) (oC T (i + 1) v) v
      refine g_iload lk_47_5 rfl ?_
      refine g_aload_n lk_47_7 rfl ?_
      refine g_getfield lk_47_8 rfl (lay.on (by decide) rfl) (v := ((24 : Nat) : Int)) (lay.rf rfl) ?_
      refine g_virtual (p := 24) (Qc := _) lk_47_11 rfl (Nat.le_of_ble_eq_true rfl) rfl rfl (lay.on (by decide) rfl) (Nat.le_of_ble_eq_true rfl) (Nat.le_of_ble_eq_true rfl) (Nat.zero_le _) (Nat.zero_le _) (c_Table_allRows lay ht hT hM) ?_
      rintro _ N1 ⟨rfl, hN1⟩
      rw [hN1]
      show Wp _ 47 14 [(2, ((28 : Nat) : Int)), (0, (r : Int)), (0, (c : Int)), (0, (aAll T v r c i : Int)), (0, ((i + 1 : Nat) : Int)), v5] [(0, ((2 ^ tR T - 1 : Nat) : Int)), (0, ((i + 1 : Nat) : Int))] M _ _ _
      refine g_icmp (t := 65) lk_47_14 rfl (by first | (unfold pm_inI; omega) | exact pm_and_in _ _ | exact pm_shr_in _ _ | exact pm_or_in _ _ | exact pm_xor_in _ _ | exact pm_shl_in _ _ | exact pm_cmp_in _ _ | exact pm_b8_in _ | (unfold pm_inI; split <;> omega)) (by first | (unfold pm_inI; omega) | exact pm_and_in _ _ | exact pm_shr_in _ _ | exact pm_or_in _ _ | exact pm_xor_in _ _ | exact pm_shl_in _ _ | exact pm_cmp_in _ _ | exact pm_b8_in _ | (unfold pm_inI; split <;> omega)) (fun h2 => ?_) (fun h2 => ?_)
      · replace h2 : ((2 ^ tR T - 1 : Nat) : Int) < ((i + 1 : Nat) : Int) := h2
        refine g_iload_n lk_47_65 rfl ?_
        refine g_ireturn lk_47_66 (fun h => absurd h (by decide)) ?_
        omega
      · replace h2 : ¬ (((2 ^ tR T - 1 : Nat) : Int) < ((i + 1 : Nat) : Int)) := h2
        refine g_aload_n lk_47_17 rfl ?_
        refine g_iload lk_47_18 rfl ?_
        refine g_virtual (p := 28) (Qc := _) lk_47_20 rfl (Nat.le_of_ble_eq_true rfl) rfl rfl (lay.on (by decide) rfl) (Nat.le_of_ble_eq_true rfl) (Nat.le_of_ble_eq_true rfl) (Nat.zero_le _) (Nat.zero_le _) (c_Patches_openColumns lay hT hM hP (by omega)) ?_
        rintro _ N3 ⟨rfl, hN3⟩
        rw [hN3]
        show Wp _ 47 23 [(2, ((28 : Nat) : Int)), (0, (r : Int)), (0, (c : Int)), (0, (aAll T v r c i : Int)), (0, ((i + 1 : Nat) : Int)), v5] [(0, ((oC T (i + 1) v : Nat) : Int))] M _ _ _
        refine g_istore (ls' := [(2, ((28 : Nat) : Int)), (0, (r : Int)), (0, (c : Int)), (0, (aAll T v r c i : Int)), (0, ((i + 1 : Nat) : Int)), (0, ((oC T (i + 1) v : Nat) : Int))]) lk_47_23 rfl rfl ?_
        refine g_iload_n lk_47_25 rfl ?_
        refine g_iload lk_47_26 rfl ?_
        refine g_static (Qc := _) lk_47_28 (by decide) rfl (Nat.le_of_ble_eq_true rfl) rfl rfl (Nat.le_of_ble_eq_true rfl) (Nat.le_of_ble_eq_true rfl) (Nat.zero_le _) (Nat.zero_le _) (c_Table_isIn (by omega) (by omega)) ?_
        rintro _ N4 ⟨rfl, hN4⟩
        rw [hN4]
        show Wp _ 47 31 [(2, ((28 : Nat) : Int)), (0, (r : Int)), (0, (c : Int)), (0, (aAll T v r c i : Int)), (0, ((i + 1 : Nat) : Int)), (0, ((oC T (i + 1) v : Nat) : Int))] [(0, (if Nat.testBit (i + 1) r then (1 : Int) else 0))] M _ _ _
        refine g_if (t := 59) lk_47_31 rfl (by first | (unfold pm_inI; omega) | exact pm_and_in _ _ | exact pm_shr_in _ _ | exact pm_or_in _ _ | exact pm_xor_in _ _ | exact pm_shl_in _ _ | exact pm_cmp_in _ _ | exact pm_b8_in _ | (unfold pm_inI; split <;> omega)) (fun h5 => ?_) (fun h5 => ?_)
        · replace h5 : (if Nat.testBit (i + 1) r then (1 : Int) else 0) = 0 := h5
          refine g_iinc (ls' := [(2, ((28 : Nat) : Int)), (0, (r : Int)), (0, (c : Int)), (0, (aAll T v r c i : Int)), (0, (((i + 1 : Nat) : Int) + 1)), (0, ((oC T (i + 1) v : Nat) : Int))]) lk_47_59 rfl rfl rfl ?_
          refine g_goto (t := 5) lk_47_62 rfl ?_
          rw [if_neg (by simp_all)] at e
          rw [← e]
          exact ih (i + 1) _ (by omega)
        · replace h5 : ¬ ((if Nat.testBit (i + 1) r then (1 : Int) else 0) = 0) := h5
          refine g_iload_n lk_47_34 rfl ?_
          refine g_iload lk_47_35 rfl ?_
          refine g_static (Qc := _) lk_47_37 (by decide) rfl (Nat.le_of_ble_eq_true rfl) rfl rfl (Nat.le_of_ble_eq_true rfl) (Nat.le_of_ble_eq_true rfl) (Nat.zero_le _) (Nat.zero_le _) (c_Table_isIn (by omega) (by omega)) ?_
          rintro _ N6 ⟨rfl, hN6⟩
          rw [hN6]
          show Wp _ 47 40 [(2, ((28 : Nat) : Int)), (0, (r : Int)), (0, (c : Int)), (0, (aAll T v r c i : Int)), (0, ((i + 1 : Nat) : Int)), (0, ((oC T (i + 1) v : Nat) : Int))] [(0, (if Nat.testBit (oC T (i + 1) v) c then (1 : Int) else 0))] M _ _ _
          refine g_if (t := 59) lk_47_40 rfl (by first | (unfold pm_inI; omega) | exact pm_and_in _ _ | exact pm_shr_in _ _ | exact pm_or_in _ _ | exact pm_xor_in _ _ | exact pm_shl_in _ _ | exact pm_cmp_in _ _ | exact pm_b8_in _ | (unfold pm_inI; split <;> omega)) (fun h7 => ?_) (fun h7 => ?_)
          · replace h7 : (if Nat.testBit (oC T (i + 1) v) c then (1 : Int) else 0) = 0 := h7
            refine g_iinc (ls' := [(2, ((28 : Nat) : Int)), (0, (r : Int)), (0, (c : Int)), (0, (aAll T v r c i : Int)), (0, (((i + 1 : Nat) : Int) + 1)), (0, ((oC T (i + 1) v : Nat) : Int))]) lk_47_59 rfl rfl rfl ?_
            refine g_goto (t := 5) lk_47_62 rfl ?_
            rw [if_neg (by simp_all)] at e
            rw [← e]
            exact ih (i + 1) _ (by omega)
          · replace h7 : ¬ ((if Nat.testBit (oC T (i + 1) v) c then (1 : Int) else 0) = 0) := h7
            refine g_iload_n lk_47_43 rfl ?_
            refine g_aload_n lk_47_44 rfl ?_
            refine g_iload lk_47_45 rfl ?_
            refine g_iload lk_47_47 rfl ?_
            refine g_virtual (p := 28) (Qc := _) lk_47_49 rfl (Nat.le_of_ble_eq_true rfl) rfl rfl (lay.on (by decide) rfl) (Nat.le_of_ble_eq_true rfl) (Nat.le_of_ble_eq_true rfl) (Nat.zero_le _) (Nat.zero_le _) (c_Patches_ownCells lay hT hM hP (by omega) k1) ?_
            rintro _ N8 ⟨rfl, hN8⟩
            rw [hN8]
            show Wp _ 47 52 [(2, ((28 : Nat) : Int)), (0, (r : Int)), (0, (c : Int)), (0, (aAll T v r c i : Int)), (0, ((i + 1 : Nat) : Int)), (0, ((oC T (i + 1) v : Nat) : Int))] [(1, ((wL T (i + 1) (oC T (i + 1) v) v (tR T) : Nat) : Int)), (0, (aAll T v r c i : Int))] M _ _ _
            refine g_static (Qc := _) lk_47_52 (by decide) rfl (Nat.le_of_ble_eq_true rfl) rfl rfl (Nat.le_of_ble_eq_true rfl) (Nat.le_of_ble_eq_true rfl) (Nat.zero_le _) (Nat.zero_le _) (c_bc_wL hT) ?_
            rintro _ N9 ⟨rfl, hN9⟩
            rw [hN9]
            show Wp _ 47 55 [(2, ((28 : Nat) : Int)), (0, (r : Int)), (0, (c : Int)), (0, (aAll T v r c i : Int)), (0, ((i + 1 : Nat) : Int)), (0, ((oC T (i + 1) v : Nat) : Int))] [(0, (nV T (i + 1) (oC T (i + 1) v) v : Int)), (0, (aAll T v r c i : Int))] M _ _ _
            refine g_mmax lk_47_55 (by first | (unfold pm_inI; omega) | exact pm_and_in _ _ | exact pm_shr_in _ _ | exact pm_or_in _ _ | exact pm_xor_in _ _ | exact pm_shl_in _ _ | exact pm_cmp_in _ _ | exact pm_b8_in _ | (unfold pm_inI; split <;> omega)) (by first | (unfold pm_inI; omega) | exact pm_and_in _ _ | exact pm_shr_in _ _ | exact pm_or_in _ _ | exact pm_xor_in _ _ | exact pm_shl_in _ _ | exact pm_cmp_in _ _ | exact pm_b8_in _ | (unfold pm_inI; split <;> omega)) (Nat.le_of_ble_eq_true rfl) ?_
            refine g_istore_n (ls' := [(2, ((28 : Nat) : Int)), (0, (r : Int)), (0, (c : Int)), (0, (max (aAll T v r c i : Int) (nV T (i + 1) (oC T (i + 1) v) v : Int))), (0, ((i + 1 : Nat) : Int)), (0, ((oC T (i + 1) v : Nat) : Int))]) lk_47_58 rfl rfl ?_
            refine g_iinc (ls' := [(2, ((28 : Nat) : Int)), (0, (r : Int)), (0, (c : Int)), (0, (max (aAll T v r c i : Int) (nV T (i + 1) (oC T (i + 1) v) v : Int))), (0, (((i + 1 : Nat) : Int) + 1)), (0, ((oC T (i + 1) v : Nat) : Int))]) lk_47_59 rfl rfl rfl ?_
            refine g_goto (t := 5) lk_47_62 rfl ?_
            rw [if_pos (by simp_all)] at e
            rw [show max (aAll T v r c i : Int) (nV T (i + 1) (oC T (i + 1) v) v : Int) = (aAll T v r c (i + 1) : Int) by omega]
            exact ih (i + 1) _ (by omega)
  show Wp (d + 2) 47 0 [(2, ((28 : Nat) : Int)), (0, (r : Int)), (0, (c : Int)), (9, 0), (9, 0), (9, 0)] [] M mc ms Q
  refine g_iconst lk_47_0 ?_
  refine g_istore_n (ls' := [(2, ((28 : Nat) : Int)), (0, (r : Int)), (0, (c : Int)), (0, 0), (9, 0), (9, 0)]) lk_47_1 rfl rfl ?_
  refine g_iconst lk_47_2 ?_
  refine g_istore (ls' := [(2, ((28 : Nat) : Int)), (0, (r : Int)), (0, (c : Int)), (0, 0), (0, 1), (9, 0)]) lk_47_3 rfl rfl ?_
  exact loop (2 ^ tR T - 1) 0 _ (by omega)
def sAround (T : Tab) (r c : Int) : Int := if (0 ≤ r ∧ r < tR T) ∧ (0 ≤ c ∧ c < tC T) then (if tX T (6 * r.toNat + c.toNat) = 10 then -1 else (aAll T (tX T (6 * r.toNat + c.toNat)) r.toNat c.toNat (2 ^ tR T - 1) : Int)) else -1
set_option maxHeartbeats 4000000 in
theorem c_X_around {d mc ms : Nat} {M : pm_M} (lay0 : Lay M) {T : Tab} (hT : TabOK T) (hM0 : TbAt M 24 T) {r c : Int} (hr : pm_inI r) (hc : pm_inI c) :
    pm_E (d + 4) 130 [(2, ((1 : Nat) : Int)), (0, r), (0, c)] M mc ms (fun ρ M' => ρ = some (0, sAround T r c) ∧ Lay M' ∧ Fr sP M M') := by
  obtain ⟨Q, hQ⟩ : ∃ Q : pm_Q, Q = (fun ρ M' => ρ = some (0, sAround T r c) ∧ Lay M' ∧ Fr sP M M') := ⟨_, rfl⟩
  rw [← hQ]
  have h0 := hT.1
  have h9 := hT.2.1
  have fin : ∀ (z : Int) (N : pm_M), z = sAround T r c → Lay N → Fr sP M N → Q (some (0, z)) N := fun z N hz h1 h2 => by rw [hQ, hz]; exact ⟨rfl, h1, h2⟩
  show Wp (d + 4) 130 0 [(2, ((1 : Nat) : Int)), (0, r), (0, c)] [] M mc ms Q
  by_cases hin : (0 ≤ r ∧ r < tR T) ∧ (0 ≤ c ∧ c < tC T)
  · obtain ⟨x, rfl⟩ := Int.eq_ofNat_of_zero_le hin.1.1
    obtain ⟨y, rfl⟩ := Int.eq_ofNat_of_zero_le hin.2.1
    have hx := hT.2.2.1 (6 * x + y)
    refine g_aload_n lk_130_0 rfl ?_
    refine g_getfield lk_130_1 rfl (lay0.on (by decide) rfl) (v := ((24 : Nat) : Int)) (lay0.rf rfl) ?_
    refine g_iload_n lk_130_4 rfl ?_
    refine g_iload_n lk_130_5 rfl ?_
    refine g_virtual (p := 24) (Qc := _) lk_130_6 rfl (Nat.le_of_ble_eq_true rfl) rfl rfl (lay0.on (by decide) rfl) (Nat.le_of_ble_eq_true rfl) (Nat.le_of_ble_eq_true rfl) (Nat.zero_le _) (Nat.zero_le _) (c_Table_has lay0 (Or.inr rfl) hT hM0 hr hc) ?_
    rintro _ N1 ⟨rfl, hN1⟩
    rw [hN1]
    show Wp _ 130 9 [(2, ((1 : Nat) : Int)), (0, (x : Int)), (0, (y : Int))] [(0, (if (0 ≤ (x : Int) ∧ (x : Int) < tR T) ∧ (0 ≤ (y : Int) ∧ (y : Int) < tC T) then (1 : Int) else 0))] M _ _ _
    refine g_if (t := 26) lk_130_9 rfl (by first | (unfold pm_inI; omega) | exact pm_and_in _ _ | exact pm_shr_in _ _ | exact pm_or_in _ _ | exact pm_xor_in _ _ | exact pm_shl_in _ _ | exact pm_cmp_in _ _ | exact pm_b8_in _ | (unfold pm_inI; split <;> omega)) (fun h2 => ?_) (fun h2 => ?_)
    · replace h2 : (if (0 ≤ (x : Int) ∧ (x : Int) < tR T) ∧ (0 ≤ (y : Int) ∧ (y : Int) < tC T) then (1 : Int) else 0) = 0 := h2
      refine g_iconst lk_130_26 ?_
      refine g_ireturn lk_130_27 (fun h => absurd h (by decide)) ?_
      exfalso; rw [if_pos hin] at h2; omega
    · replace h2 : ¬ ((if (0 ≤ (x : Int) ∧ (x : Int) < tR T) ∧ (0 ≤ (y : Int) ∧ (y : Int) < tC T) then (1 : Int) else 0) = 0) := h2
      refine g_aload_n lk_130_12 rfl ?_
      refine g_getfield lk_130_13 rfl (lay0.on (by decide) rfl) (v := ((24 : Nat) : Int)) (lay0.rf rfl) ?_
      refine g_iload_n lk_130_16 rfl ?_
      refine g_iload_n lk_130_17 rfl ?_
      refine g_virtual (p := 24) (Qc := _) lk_130_18 rfl (Nat.le_of_ble_eq_true rfl) rfl rfl (lay0.on (by decide) rfl) (Nat.le_of_ble_eq_true rfl) (Nat.le_of_ble_eq_true rfl) (Nat.zero_le _) (Nat.zero_le _) (c_Table_at lay0 (Or.inr rfl) hM0 (by omega) (by omega)) ?_
      rintro _ N3 ⟨rfl, hN3⟩
      rw [hN3]
      show Wp _ 130 21 [(2, ((1 : Nat) : Int)), (0, (x : Int)), (0, (y : Int))] [(0, (tX T (6 * x + y) : Int))] M _ _ _
      refine g_bipush lk_130_21 ?_
      refine g_icmp (t := 28) lk_130_23 rfl (by first | (unfold pm_inI; omega) | exact pm_and_in _ _ | exact pm_shr_in _ _ | exact pm_or_in _ _ | exact pm_xor_in _ _ | exact pm_shl_in _ _ | exact pm_cmp_in _ _ | exact pm_b8_in _ | (unfold pm_inI; split <;> omega)) (by first | (unfold pm_inI; omega) | exact pm_and_in _ _ | exact pm_shr_in _ _ | exact pm_or_in _ _ | exact pm_xor_in _ _ | exact pm_shl_in _ _ | exact pm_cmp_in _ _ | exact pm_b8_in _ | (unfold pm_inI; split <;> omega)) (fun h4 => ?_) (fun h4 => ?_)
      · replace h4 : ¬ (tX T (6 * x + y) : Int) = 10 := h4
        refine g_aload_n lk_130_28 rfl ?_
        refine g_getfield lk_130_29 rfl (lay0.on (by decide) rfl) (v := ((28 : Nat) : Int)) (lay0.rf rfl) ?_
        refine g_aload_n lk_130_32 rfl ?_
        refine g_getfield lk_130_33 rfl (lay0.on (by decide) rfl) (v := ((24 : Nat) : Int)) (lay0.rf rfl) ?_
        refine g_iload_n lk_130_36 rfl ?_
        refine g_iload_n lk_130_37 rfl ?_
        refine g_virtual (p := 24) (Qc := _) lk_130_38 rfl (Nat.le_of_ble_eq_true rfl) rfl rfl (lay0.on (by decide) rfl) (Nat.le_of_ble_eq_true rfl) (Nat.le_of_ble_eq_true rfl) (Nat.zero_le _) (Nat.zero_le _) (c_Table_at lay0 (Or.inr rfl) hM0 (by omega) (by omega)) ?_
        rintro _ N5 ⟨rfl, hN5⟩
        rw [hN5]
        show Wp _ 130 41 [(2, ((1 : Nat) : Int)), (0, (x : Int)), (0, (y : Int))] [(0, (tX T (6 * x + y) : Int)), (2, ((28 : Nat) : Int))] M _ _ _
        refine g_virtual (p := 28) (Qc := _) lk_130_41 rfl (Nat.le_of_ble_eq_true rfl) rfl rfl (lay0.on (by decide) rfl) (Nat.le_of_ble_eq_true rfl) (Nat.le_of_ble_eq_true rfl) (Nat.zero_le _) (Nat.zero_le _) (c_Patches_take (d := d) lay0 hT hM0 (v := tX T (6 * x + y)) (by omega)) ?_
        rintro _ N' ⟨rfl, f, g, hN, lay', hP⟩
        have hF : Fr sP M N' := by rw [hN]; exact Fr.mu _ _ rfl
        have hM' : TbAt N' 24 T := hM0.fr hF (by decide) (by decide)
        have k := c_Patches_mostWith (d := d + 1) (mc := 0) (ms := 0) lay' hT hM' (r := x) (c := y) hP (by omega) (by omega)
        show Wp (d + 4) 130 44 [(2, ((1 : Nat) : Int)), (0, (x : Int)), (0, (y : Int))] [] N' mc ms Q
        refine g_aload_n lk_130_44 rfl ?_
        refine g_getfield lk_130_45 rfl (lay'.on (by decide) rfl) (v := ((28 : Nat) : Int)) (lay'.rf rfl) ?_
        refine g_iload_n lk_130_48 rfl ?_
        refine g_iload_n lk_130_49 rfl ?_
        refine g_virtual (p := 28) (Qc := _) lk_130_50 rfl (Nat.le_of_ble_eq_true rfl) rfl rfl (lay'.on (by decide) rfl) (Nat.le_of_ble_eq_true rfl) (Nat.le_of_ble_eq_true rfl) (Nat.zero_le _) (Nat.zero_le _) k ?_
        rintro _ N2 ⟨rfl, hN2⟩
        rw [hN2]
        refine g_ireturn lk_130_53 (fun h => absurd h (by decide)) ?_
        refine fin _ _ ?_ lay' hF
        unfold sAround
        rw [if_pos hin, Int.toNat_natCast, Int.toNat_natCast, if_neg (by omega)]
      · replace h4 : ¬ (¬ (tX T (6 * x + y) : Int) = 10) := h4
        refine g_iconst lk_130_26 ?_
        refine g_ireturn lk_130_27 (fun h => absurd h (by decide)) ?_
        refine fin _ _ ?_ lay0 (Fr.refl _ _)
        unfold sAround
        rw [if_pos hin, Int.toNat_natCast, Int.toNat_natCast, if_pos (by omega)]
  · have hin2 := hin
    refine g_aload_n lk_130_0 rfl ?_
    refine g_getfield lk_130_1 rfl (lay0.on (by decide) rfl) (v := ((24 : Nat) : Int)) (lay0.rf rfl) ?_
    refine g_iload_n lk_130_4 rfl ?_
    refine g_iload_n lk_130_5 rfl ?_
    refine g_virtual (p := 24) (Qc := _) lk_130_6 rfl (Nat.le_of_ble_eq_true rfl) rfl rfl (lay0.on (by decide) rfl) (Nat.le_of_ble_eq_true rfl) (Nat.le_of_ble_eq_true rfl) (Nat.zero_le _) (Nat.zero_le _) (c_Table_has lay0 (Or.inr rfl) hT hM0 hr hc) ?_
    rintro _ N1 ⟨rfl, hN1⟩
    rw [hN1]
    show Wp _ 130 9 [(2, ((1 : Nat) : Int)), (0, r), (0, c)] [(0, (if (0 ≤ r ∧ r < tR T) ∧ (0 ≤ c ∧ c < tC T) then (1 : Int) else 0))] M _ _ _
    refine g_if (t := 26) lk_130_9 rfl (by first | (unfold pm_inI; omega) | exact pm_and_in _ _ | exact pm_shr_in _ _ | exact pm_or_in _ _ | exact pm_xor_in _ _ | exact pm_shl_in _ _ | exact pm_cmp_in _ _ | exact pm_b8_in _ | (unfold pm_inI; split <;> omega)) (fun h2 => ?_) (fun h2 => ?_)
    · replace h2 : (if (0 ≤ r ∧ r < tR T) ∧ (0 ≤ c ∧ c < tC T) then (1 : Int) else 0) = 0 := h2
      refine g_iconst lk_130_26 ?_
      refine g_ireturn lk_130_27 (fun h => absurd h (by decide)) ?_
      refine fin _ _ ?_ lay0 (Fr.refl _ _)
      unfold sAround
      rw [if_neg hin]
    · replace h2 : ¬ ((if (0 ≤ r ∧ r < tR T) ∧ (0 ≤ c ∧ c < tC T) then (1 : Int) else 0) = 0) := h2
      refine g_aload_n lk_130_12 rfl ?_
      refine g_getfield lk_130_13 rfl (lay0.on (by decide) rfl) (v := ((24 : Nat) : Int)) (lay0.rf rfl) ?_
      refine g_iload_n lk_130_16 rfl ?_
      refine g_iload_n lk_130_17 rfl ?_
      exfalso; exact h2 (by rw [if_neg hin])
theorem c_Mo_greater {d mc ms : Nat} {M : pm_M} {a b : Int} (ha : pm_inI a) (hb : pm_inI b) :
    pm_E d 170 [(0, a), (0, b)] M mc ms (fun ρ M' => ρ = some (0, max a b) ∧ M' = M) := by
  show Wp d 170 0 [(0, a), (0, b)] [] M mc ms _
  refine g_iload_n lk_170_0 rfl ?_
  refine g_iload_n lk_170_1 rfl ?_
  refine g_icmp (t := 9) lk_170_2 rfl (by assumption) (by assumption) (fun h1 => ?_) (fun h1 => ?_)
  · replace h1 : a ≤ b := h1
    refine g_iload_n lk_170_9 rfl ?_
    refine g_ireturn lk_170_10 (fun h => absurd h (by decide)) ?_
    exact ⟨by rw [show max a b = b by omega], rfl⟩
  · replace h1 : ¬ (a ≤ b) := h1
    refine g_iload_n lk_170_5 rfl ?_
    refine g_goto (t := 10) lk_170_6 rfl ?_
    refine g_ireturn lk_170_10 (fun h => absurd h (by decide)) ?_
    exact ⟨by rw [show max a b = a by omega], rfl⟩
set_option maxHeartbeats 4000000 in
theorem c_Mo_around {d mc ms : Nat} {M : pm_M} (lay0 : Lay M) {T : Tab} (hT : TabOK T) (hM0 : MoAt M T) {r c : Int} (hr : pm_inI r) (hc : pm_inI c) :
    pm_E (d + 3) 218 [(2, ((116 : Nat) : Int)), (0, r), (0, c)] M mc ms (fun ρ M' => ρ = some (0, sAround T r c) ∧ Lay M' ∧ M' = Mu [(116, pm_upd (pm_ct M 116) 0 0)] M) := by
  obtain ⟨N, hN⟩ : ∃ N, N = Mu [(116, pm_upd (pm_ct M 116) 0 0)] M := ⟨_, rfl⟩
  have hM : MoAt N T := by rw [hN]; exact hM0
  have hM1 : MoAt (Mu [(116, pm_upd (pm_ct M 116) 0 0)] M) T := hM0
  have lay : Lay N := by rw [hN]; exact lay0.muF (l := []) (a := 116) (k := 0) (z := 0) rfl rfl
  obtain ⟨Q, hQ⟩ : ∃ Q : pm_Q, Q = (fun ρ M' => ρ = some (0, sAround T r c) ∧ Lay M' ∧ M' = Mu [(116, pm_upd (pm_ct M 116) 0 0)] M) := ⟨_, rfl⟩
  rw [← hQ]
  have h0 := hT.1
  have h9 := hT.2.1
  have hR := tR_64 hT
  have fin : ∀ (z : Int), z = sAround T r c → Q (some (0, z)) N := fun z hz => by rw [hQ, hz]; exact ⟨rfl, lay, hN⟩
  show Wp (d + 3) 218 0 [(2, ((116 : Nat) : Int)), (0, r), (0, c), (9, 0), (9, 0), (9, 0), (9, 0)] [] M mc ms Q
  by_cases hin : (0 ≤ r ∧ r < tR T) ∧ (0 ≤ c ∧ c < tC T)
  · obtain ⟨x, rfl⟩ := Int.eq_ofNat_of_zero_le hin.1.1
    obtain ⟨y, rfl⟩ := Int.eq_ofNat_of_zero_le hin.2.1
    have hx := hT.2.2.1 (6 * x + y)
    obtain ⟨v, hv⟩ : ∃ v, v = tX T (6 * x + y) := ⟨_, rfl⟩
    have loop : v < 10 → ∀ (n i : Nat) (v6 : pm_V), i + n = 2 ^ tR T - 1 → Wp (d + 3) 218 40 [(2, ((116 : Nat) : Int)), (0, (x : Int)), (0, (y : Int)), (0, (v : Int)), (0, (aAll T v x y i : Int)), (0, ((i + 1 : Nat) : Int)), v6] [] N mc ms Q := by
      intro hv10 n
      induction n with
      | zero =>
        intro i v6 hi
        have ei : i = 2 ^ tR T - 1 := by omega
        refine g_iload lk_218_40 rfl ?_
        refine g_aload_n lk_218_42 rfl ?_
        refine g_virtual (p := 116) (Qc := _) lk_218_43 rfl (Nat.le_of_ble_eq_true rfl) rfl rfl (lay.on (by decide) rfl) (Nat.le_of_ble_eq_true rfl) (Nat.le_of_ble_eq_true rfl) (Nat.zero_le _) (Nat.zero_le _) (c_Mo_allRows lay hT hM) ?_
        rintro _ N1 ⟨rfl, hN1⟩
        rw [hN1]
        show Wp _ 218 46 [(2, ((116 : Nat) : Int)), (0, (x : Int)), (0, (y : Int)), (0, (v : Int)), (0, (aAll T v x y i : Int)), (0, ((i + 1 : Nat) : Int)), v6] [(0, ((2 ^ tR T - 1 : Nat) : Int)), (0, ((i + 1 : Nat) : Int))] N _ _ _
        refine g_icmp (t := 103) lk_218_46 rfl (by first | (unfold pm_inI; omega) | exact pm_and_in _ _ | exact pm_shr_in _ _ | exact pm_or_in _ _ | exact pm_xor_in _ _ | exact pm_shl_in _ _ | exact pm_cmp_in _ _ | exact pm_b8_in _ | (unfold pm_inI; split <;> omega)) (by first | (unfold pm_inI; omega) | exact pm_and_in _ _ | exact pm_shr_in _ _ | exact pm_or_in _ _ | exact pm_xor_in _ _ | exact pm_shl_in _ _ | exact pm_cmp_in _ _ | exact pm_b8_in _ | (unfold pm_inI; split <;> omega)) (fun h2 => ?_) (fun h2 => ?_)
        · replace h2 : ((2 ^ tR T - 1 : Nat) : Int) < ((i + 1 : Nat) : Int) := h2
          refine g_iload lk_218_103 rfl ?_
          refine g_ireturn lk_218_105 (fun h => absurd h (by decide)) ?_
          refine fin _ ?_
          unfold sAround
          rw [if_pos hin, Int.toNat_natCast, Int.toNat_natCast, ← hv, if_neg (by omega), ei]
        · replace h2 : ¬ (((2 ^ tR T - 1 : Nat) : Int) < ((i + 1 : Nat) : Int)) := h2
          omega
      | succ n ih =>
        intro i v6 hi
        have e := aAll_s T v x y i
        have k1 := oC_64 hT (i + 1) v
        have k2 := aAll_36 hT v x y i
        have k3 := nV_36 hT (i + 1) (oC T (i + 1) v) v
        refine g_iload lk_218_40 rfl ?_
        refine g_aload_n lk_218_42 rfl ?_
        refine g_virtual (p := 116) (Qc := _) lk_218_43 rfl (Nat.le_of_ble_eq_true rfl) rfl rfl (lay.on (by decide) rfl) (Nat.le_of_ble_eq_true rfl) (Nat.le_of_ble_eq_true rfl) (Nat.zero_le _) (Nat.zero_le _) (c_Mo_allRows lay hT hM) ?_
        rintro _ N1 ⟨rfl, hN1⟩
        rw [hN1]
        show Wp _ 218 46 [(2, ((116 : Nat) : Int)), (0, (x : Int)), (0, (y : Int)), (0, (v : Int)), (0, (aAll T v x y i : Int)), (0, ((i + 1 : Nat) : Int)), v6] [(0, ((2 ^ tR T - 1 : Nat) : Int)), (0, ((i + 1 : Nat) : Int))] N _ _ _
        refine g_icmp (t := 103) lk_218_46 rfl (by first | (unfold pm_inI; omega) | exact pm_and_in _ _ | exact pm_shr_in _ _ | exact pm_or_in _ _ | exact pm_xor_in _ _ | exact pm_shl_in _ _ | exact pm_cmp_in _ _ | exact pm_b8_in _ | (unfold pm_inI; split <;> omega)) (by first | (unfold pm_inI; omega) | exact pm_and_in _ _ | exact pm_shr_in _ _ | exact pm_or_in _ _ | exact pm_xor_in _ _ | exact pm_shl_in _ _ | exact pm_cmp_in _ _ | exact pm_b8_in _ | (unfold pm_inI; split <;> omega)) (fun h2 => ?_) (fun h2 => ?_)
        · replace h2 : ((2 ^ tR T - 1 : Nat) : Int) < ((i + 1 : Nat) : Int) := h2
          refine g_iload lk_218_103 rfl ?_
          refine g_ireturn lk_218_105 (fun h => absurd h (by decide)) ?_
          omega
        · replace h2 : ¬ (((2 ^ tR T - 1 : Nat) : Int) < ((i + 1 : Nat) : Int)) := h2
          refine g_aload_n lk_218_49 rfl ?_
          refine g_iload lk_218_50 rfl ?_
          refine g_iload_n lk_218_52 rfl ?_
          refine g_virtual (p := 116) (Qc := _) lk_218_53 rfl (Nat.le_of_ble_eq_true rfl) rfl rfl (lay.on (by decide) rfl) (Nat.le_of_ble_eq_true rfl) (Nat.le_of_ble_eq_true rfl) (Nat.zero_le _) (Nat.zero_le _) (c_Mo_columnsFor lay hT hM (by omega) (by omega)) ?_
          rintro _ N3 ⟨rfl, hN3⟩
          rw [hN3]
          show Wp _ 218 56 [(2, ((116 : Nat) : Int)), (0, (x : Int)), (0, (y : Int)), (0, (v : Int)), (0, (aAll T v x y i : Int)), (0, ((i + 1 : Nat) : Int)), v6] [(0, ((oC T (i + 1) v : Nat) : Int))] N _ _ _
          refine g_istore (ls' := [(2, ((116 : Nat) : Int)), (0, (x : Int)), (0, (y : Int)), (0, (v : Int)), (0, (aAll T v x y i : Int)), (0, ((i + 1 : Nat) : Int)), (0, ((oC T (i + 1) v : Nat) : Int))]) lk_218_56 rfl rfl ?_
          refine g_iload lk_218_58 rfl ?_
          refine g_iload_n lk_218_60 rfl ?_
          refine g_static (Qc := _) lk_218_61 (by decide) rfl (Nat.le_of_ble_eq_true rfl) rfl rfl (Nat.le_of_ble_eq_true rfl) (Nat.le_of_ble_eq_true rfl) (Nat.zero_le _) (Nat.zero_le _) (c_Mo_isOf (by omega) (by omega)) ?_
          rintro _ N4 ⟨rfl, hN4⟩
          rw [hN4]
          show Wp _ 218 64 [(2, ((116 : Nat) : Int)), (0, (x : Int)), (0, (y : Int)), (0, (v : Int)), (0, (aAll T v x y i : Int)), (0, ((i + 1 : Nat) : Int)), (0, ((oC T (i + 1) v : Nat) : Int))] [(0, (if Nat.testBit (i + 1) x then (1 : Int) else 0))] N _ _ _
          refine g_if (t := 93) lk_218_64 rfl (by first | (unfold pm_inI; omega) | exact pm_and_in _ _ | exact pm_shr_in _ _ | exact pm_or_in _ _ | exact pm_xor_in _ _ | exact pm_shl_in _ _ | exact pm_cmp_in _ _ | exact pm_b8_in _ | (unfold pm_inI; split <;> omega)) (fun h5 => ?_) (fun h5 => ?_)
          · replace h5 : (if Nat.testBit (i + 1) x then (1 : Int) else 0) = 0 := h5
            refine g_iload lk_218_93 rfl ?_
            refine g_istore (ls' := [(2, ((116 : Nat) : Int)), (0, (x : Int)), (0, (y : Int)), (0, (v : Int)), (0, (aAll T v x y i : Int)), (0, ((i + 1 : Nat) : Int)), (0, ((oC T (i + 1) v : Nat) : Int))]) lk_218_95 rfl rfl ?_
            refine g_iinc (ls' := [(2, ((116 : Nat) : Int)), (0, (x : Int)), (0, (y : Int)), (0, (v : Int)), (0, (aAll T v x y i : Int)), (0, (((i + 1 : Nat) : Int) + 1)), (0, ((oC T (i + 1) v : Nat) : Int))]) lk_218_97 rfl rfl rfl ?_
            refine g_goto (t := 40) lk_218_100 rfl ?_
            rw [if_neg (by simp_all)] at e
            rw [← e]
            exact ih (i + 1) _ (by omega)
          · replace h5 : ¬ ((if Nat.testBit (i + 1) x then (1 : Int) else 0) = 0) := h5
            refine g_iload lk_218_67 rfl ?_
            refine g_iload_n lk_218_69 rfl ?_
            refine g_static (Qc := _) lk_218_70 (by decide) rfl (Nat.le_of_ble_eq_true rfl) rfl rfl (Nat.le_of_ble_eq_true rfl) (Nat.le_of_ble_eq_true rfl) (Nat.zero_le _) (Nat.zero_le _) (c_Mo_isOf (by omega) (by omega)) ?_
            rintro _ N6 ⟨rfl, hN6⟩
            rw [hN6]
            show Wp _ 218 73 [(2, ((116 : Nat) : Int)), (0, (x : Int)), (0, (y : Int)), (0, (v : Int)), (0, (aAll T v x y i : Int)), (0, ((i + 1 : Nat) : Int)), (0, ((oC T (i + 1) v : Nat) : Int))] [(0, (if Nat.testBit (oC T (i + 1) v) y then (1 : Int) else 0))] N _ _ _
            refine g_if (t := 93) lk_218_73 rfl (by first | (unfold pm_inI; omega) | exact pm_and_in _ _ | exact pm_shr_in _ _ | exact pm_or_in _ _ | exact pm_xor_in _ _ | exact pm_shl_in _ _ | exact pm_cmp_in _ _ | exact pm_b8_in _ | (unfold pm_inI; split <;> omega)) (fun h7 => ?_) (fun h7 => ?_)
            · replace h7 : (if Nat.testBit (oC T (i + 1) v) y then (1 : Int) else 0) = 0 := h7
              refine g_iload lk_218_93 rfl ?_
              refine g_istore (ls' := [(2, ((116 : Nat) : Int)), (0, (x : Int)), (0, (y : Int)), (0, (v : Int)), (0, (aAll T v x y i : Int)), (0, ((i + 1 : Nat) : Int)), (0, ((oC T (i + 1) v : Nat) : Int))]) lk_218_95 rfl rfl ?_
              refine g_iinc (ls' := [(2, ((116 : Nat) : Int)), (0, (x : Int)), (0, (y : Int)), (0, (v : Int)), (0, (aAll T v x y i : Int)), (0, (((i + 1 : Nat) : Int) + 1)), (0, ((oC T (i + 1) v : Nat) : Int))]) lk_218_97 rfl rfl rfl ?_
              refine g_goto (t := 40) lk_218_100 rfl ?_
              rw [if_neg (by simp_all)] at e
              rw [← e]
              exact ih (i + 1) _ (by omega)
            · replace h7 : ¬ ((if Nat.testBit (oC T (i + 1) v) y then (1 : Int) else 0) = 0) := h7
              refine g_iload lk_218_76 rfl ?_
              refine g_aload_n lk_218_78 rfl ?_
              refine g_iload lk_218_79 rfl ?_
              refine g_iload lk_218_81 rfl ?_
              refine g_iload_n lk_218_83 rfl ?_
              refine g_virtual (p := 116) (Qc := _) lk_218_84 rfl (Nat.le_of_ble_eq_true rfl) rfl rfl (lay.on (by decide) rfl) (Nat.le_of_ble_eq_true rfl) (Nat.le_of_ble_eq_true rfl) (Nat.zero_le _) (Nat.zero_le _) (c_Mo_countV lay hT hM (by omega) (by omega) (by omega)) ?_
              rintro _ N8 ⟨rfl, hN8⟩
              rw [hN8]
              show Wp _ 218 87 [(2, ((116 : Nat) : Int)), (0, (x : Int)), (0, (y : Int)), (0, (v : Int)), (0, (aAll T v x y i : Int)), (0, ((i + 1 : Nat) : Int)), (0, ((oC T (i + 1) v : Nat) : Int))] [(0, (nV T (i + 1) (oC T (i + 1) v) v : Int)), (0, (aAll T v x y i : Int))] N _ _ _
              refine g_static (Qc := _) lk_218_87 (by decide) rfl (Nat.le_of_ble_eq_true rfl) rfl rfl (Nat.le_of_ble_eq_true rfl) (Nat.le_of_ble_eq_true rfl) (Nat.zero_le _) (Nat.zero_le _) (c_Mo_greater (by unfold pm_inI; omega) (by unfold pm_inI; omega)) ?_
              rintro _ N9 ⟨rfl, hN9⟩
              rw [hN9]
              show Wp _ 218 90 [(2, ((116 : Nat) : Int)), (0, (x : Int)), (0, (y : Int)), (0, (v : Int)), (0, (aAll T v x y i : Int)), (0, ((i + 1 : Nat) : Int)), (0, ((oC T (i + 1) v : Nat) : Int))] [(0, (max (aAll T v x y i : Int) (nV T (i + 1) (oC T (i + 1) v) v : Int)))] N _ _ _
              refine g_goto (t := 95) lk_218_90 rfl ?_
              refine g_istore (ls' := [(2, ((116 : Nat) : Int)), (0, (x : Int)), (0, (y : Int)), (0, (v : Int)), (0, (max (aAll T v x y i : Int) (nV T (i + 1) (oC T (i + 1) v) v : Int))), (0, ((i + 1 : Nat) : Int)), (0, ((oC T (i + 1) v : Nat) : Int))]) lk_218_95 rfl rfl ?_
              refine g_iinc (ls' := [(2, ((116 : Nat) : Int)), (0, (x : Int)), (0, (y : Int)), (0, (v : Int)), (0, (max (aAll T v x y i : Int) (nV T (i + 1) (oC T (i + 1) v) v : Int))), (0, (((i + 1 : Nat) : Int) + 1)), (0, ((oC T (i + 1) v : Nat) : Int))]) lk_218_97 rfl rfl rfl ?_
              refine g_goto (t := 40) lk_218_100 rfl ?_
              rw [if_pos (by simp_all)] at e
              rw [show max (aAll T v x y i : Int) (nV T (i + 1) (oC T (i + 1) v) v : Int) = (aAll T v x y (i + 1) : Int) by omega]
              exact ih (i + 1) _ (by omega)
    refine g_aload_n lk_218_0 rfl ?_
    refine g_iconst lk_218_1 ?_
    have lay1 : Lay (Mu [(116, pm_upd (pm_ct M 116) 0 0)] M) := lay0.muF (l := []) (a := 116) (k := 0) (z := 0) rfl rfl
    refine m_putfield (u := []) (u' := [(116, pm_upd (pm_ct M 116) 0 0)]) (M := M) lk_218_2 rfl (lay0.on (by decide) rfl) (fun h => absurd h (by decide)) rfl ?_
    refine g_aload_n lk_218_5 rfl ?_
    refine g_iload_n lk_218_6 rfl ?_
    refine g_iload_n lk_218_7 rfl ?_
    refine g_virtual (p := 116) (Qc := _) lk_218_8 rfl (Nat.le_of_ble_eq_true rfl) rfl rfl (lay1.on (by decide) rfl) (Nat.le_of_ble_eq_true rfl) (Nat.le_of_ble_eq_true rfl) (Nat.zero_le _) (Nat.zero_le _) (c_Mo_isCell lay1 hT hM1 hr hc) ?_
    rintro _ N2 ⟨rfl, hN2⟩
    rw [hN2]
    show Wp _ 218 11 [(2, ((116 : Nat) : Int)), (0, (x : Int)), (0, (y : Int)), (9, 0), (9, 0), (9, 0), (9, 0)] [(0, (if (0 ≤ (x : Int) ∧ (x : Int) < tR T) ∧ (0 ≤ (y : Int) ∧ (y : Int) < tC T) then (1 : Int) else 0))] (Mu [(116, pm_upd (pm_ct M 116) 0 0)] M) _ _ _
    refine g_if (t := 25) lk_218_11 rfl (by first | (unfold pm_inI; omega) | exact pm_and_in _ _ | exact pm_shr_in _ _ | exact pm_or_in _ _ | exact pm_xor_in _ _ | exact pm_shl_in _ _ | exact pm_cmp_in _ _ | exact pm_b8_in _ | (unfold pm_inI; split <;> omega)) (fun h3 => ?_) (fun h3 => ?_)
    · replace h3 : (if (0 ≤ (x : Int) ∧ (x : Int) < tR T) ∧ (0 ≤ (y : Int) ∧ (y : Int) < tC T) then (1 : Int) else 0) = 0 := h3
      refine g_iconst lk_218_25 ?_
      refine g_ireturn lk_218_26 (fun h => absurd h (by decide)) ?_
      exfalso; rw [if_pos hin] at h3; omega
    · replace h3 : ¬ ((if (0 ≤ (x : Int) ∧ (x : Int) < tR T) ∧ (0 ≤ (y : Int) ∧ (y : Int) < tC T) then (1 : Int) else 0) = 0) := h3
      refine g_aload_n lk_218_14 rfl ?_
      refine g_iload_n lk_218_15 rfl ?_
      refine g_iload_n lk_218_16 rfl ?_
      refine g_virtual (p := 116) (Qc := _) lk_218_17 rfl (Nat.le_of_ble_eq_true rfl) rfl rfl (lay1.on (by decide) rfl) (Nat.le_of_ble_eq_true rfl) (Nat.le_of_ble_eq_true rfl) (Nat.zero_le _) (Nat.zero_le _) (c_Mo_cellAt lay1 hM1 (by omega) (by omega)) ?_
      rintro _ N4 ⟨rfl, hN4⟩
      rw [hN4]
      show Wp _ 218 20 [(2, ((116 : Nat) : Int)), (0, (x : Int)), (0, (y : Int)), (9, 0), (9, 0), (9, 0), (9, 0)] [(0, (tX T (6 * x + y) : Int))] (Mu [(116, pm_upd (pm_ct M 116) 0 0)] M) _ _ _
      refine g_bipush lk_218_20 ?_
      refine g_icmp (t := 27) lk_218_22 rfl (by first | (unfold pm_inI; omega) | exact pm_and_in _ _ | exact pm_shr_in _ _ | exact pm_or_in _ _ | exact pm_xor_in _ _ | exact pm_shl_in _ _ | exact pm_cmp_in _ _ | exact pm_b8_in _ | (unfold pm_inI; split <;> omega)) (by first | (unfold pm_inI; omega) | exact pm_and_in _ _ | exact pm_shr_in _ _ | exact pm_or_in _ _ | exact pm_xor_in _ _ | exact pm_shl_in _ _ | exact pm_cmp_in _ _ | exact pm_b8_in _ | (unfold pm_inI; split <;> omega)) (fun h5 => ?_) (fun h5 => ?_)
      · replace h5 : ¬ (tX T (6 * x + y) : Int) = 10 := h5
        refine g_aload_n lk_218_27 rfl ?_
        refine g_iload_n lk_218_28 rfl ?_
        refine g_iload_n lk_218_29 rfl ?_
        refine g_virtual (p := 116) (Qc := _) lk_218_30 rfl (Nat.le_of_ble_eq_true rfl) rfl rfl (lay1.on (by decide) rfl) (Nat.le_of_ble_eq_true rfl) (Nat.le_of_ble_eq_true rfl) (Nat.zero_le _) (Nat.zero_le _) (c_Mo_cellAt lay1 hM1 (by omega) (by omega)) ?_
        rintro _ N6 ⟨rfl, hN6⟩
        rw [hN6]
        show Wp _ 218 33 [(2, ((116 : Nat) : Int)), (0, (x : Int)), (0, (y : Int)), (9, 0), (9, 0), (9, 0), (9, 0)] [(0, (tX T (6 * x + y) : Int))] (Mu [(116, pm_upd (pm_ct M 116) 0 0)] M) _ _ _
        refine g_istore_n (ls' := [(2, ((116 : Nat) : Int)), (0, (x : Int)), (0, (y : Int)), (0, (tX T (6 * x + y) : Int)), (9, 0), (9, 0), (9, 0)]) lk_218_33 rfl rfl ?_
        refine g_iconst lk_218_34 ?_
        refine g_istore (ls' := [(2, ((116 : Nat) : Int)), (0, (x : Int)), (0, (y : Int)), (0, (tX T (6 * x + y) : Int)), (0, 0), (9, 0), (9, 0)]) lk_218_35 rfl rfl ?_
        refine g_iconst lk_218_37 ?_
        refine g_istore (ls' := [(2, ((116 : Nat) : Int)), (0, (x : Int)), (0, (y : Int)), (0, (tX T (6 * x + y) : Int)), (0, 0), (0, 1), (9, 0)]) lk_218_38 rfl rfl ?_
        rw [← hN, ← hv]
        exact loop (by omega) (2 ^ tR T - 1) 0 _ (by omega)
      · replace h5 : ¬ (¬ (tX T (6 * x + y) : Int) = 10) := h5
        refine g_iconst lk_218_25 ?_
        refine g_ireturn lk_218_26 (fun h => absurd h (by decide)) ?_
        rw [← hN]
        refine fin _ ?_
        unfold sAround
        rw [if_pos hin, Int.toNat_natCast, Int.toNat_natCast, if_pos (by omega)]
  · have hin2 := hin
    refine g_aload_n lk_218_0 rfl ?_
    refine g_iconst lk_218_1 ?_
    have lay1 : Lay (Mu [(116, pm_upd (pm_ct M 116) 0 0)] M) := lay0.muF (l := []) (a := 116) (k := 0) (z := 0) rfl rfl
    refine m_putfield (u := []) (u' := [(116, pm_upd (pm_ct M 116) 0 0)]) (M := M) lk_218_2 rfl (lay0.on (by decide) rfl) (fun h => absurd h (by decide)) rfl ?_
    refine g_aload_n lk_218_5 rfl ?_
    refine g_iload_n lk_218_6 rfl ?_
    refine g_iload_n lk_218_7 rfl ?_
    refine g_virtual (p := 116) (Qc := _) lk_218_8 rfl (Nat.le_of_ble_eq_true rfl) rfl rfl (lay1.on (by decide) rfl) (Nat.le_of_ble_eq_true rfl) (Nat.le_of_ble_eq_true rfl) (Nat.zero_le _) (Nat.zero_le _) (c_Mo_isCell lay1 hT hM1 hr hc) ?_
    rintro _ N2 ⟨rfl, hN2⟩
    rw [hN2]
    show Wp _ 218 11 [(2, ((116 : Nat) : Int)), (0, r), (0, c), (9, 0), (9, 0), (9, 0), (9, 0)] [(0, (if (0 ≤ r ∧ r < tR T) ∧ (0 ≤ c ∧ c < tC T) then (1 : Int) else 0))] (Mu [(116, pm_upd (pm_ct M 116) 0 0)] M) _ _ _
    refine g_if (t := 25) lk_218_11 rfl (by first | (unfold pm_inI; omega) | exact pm_and_in _ _ | exact pm_shr_in _ _ | exact pm_or_in _ _ | exact pm_xor_in _ _ | exact pm_shl_in _ _ | exact pm_cmp_in _ _ | exact pm_b8_in _ | (unfold pm_inI; split <;> omega)) (fun h3 => ?_) (fun h3 => ?_)
    · replace h3 : (if (0 ≤ r ∧ r < tR T) ∧ (0 ≤ c ∧ c < tC T) then (1 : Int) else 0) = 0 := h3
      refine g_iconst lk_218_25 ?_
      refine g_ireturn lk_218_26 (fun h => absurd h (by decide)) ?_
      rw [← hN]
      refine fin _ ?_
      unfold sAround
      rw [if_neg hin]
    · replace h3 : ¬ ((if (0 ≤ r ∧ r < tR T) ∧ (0 ≤ c ∧ c < tC T) then (1 : Int) else 0) = 0) := h3
      refine g_aload_n lk_218_14 rfl ?_
      refine g_iload_n lk_218_15 rfl ?_
      refine g_iload_n lk_218_16 rfl ?_
      exfalso; exact h3 (by rw [if_neg hin])
