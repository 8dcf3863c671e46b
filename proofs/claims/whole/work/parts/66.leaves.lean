/-! ===== Spoilt: what one leaf spoils ===== -/
set_option maxHeartbeats 16000000 in
theorem c_Spoilt_tellByLeaves {d mc ms : Nat} {M : pm_M} (lay0 : Lay M) {T : Tab} (hT : TabOK T) (hM0 : TbAt M 24 T) {s cn n : Nat} (hA0 : CA M T s 1) (oc : own cn) (nsc : s ≠ cn) (w3 : pm_ct M 51 3 = ((cn : Nat) : Int)) (hay0 : pm_ay M cn 101 n) (hn : siz T ≤ n) :
    pm_E (d + 3) 75 [(2, ((51 : Nat) : Int))] M mc ms (fun ρ M' => ρ = none ∧ Lay M' ∧ Fr [cn] M M' ∧ GaOK M' T (e0 T) cn) := by
  obtain ⟨Q, hQ⟩ : ∃ Q : pm_Q, Q = (fun ρ M' => ρ = none ∧ Lay M' ∧ Fr [cn] M M' ∧ GaOK M' T (e0 T) cn) := ⟨_, rfl⟩
  rw [← hQ]
  have ht : (24 : Nat) = 4 ∨ (24 : Nat) = 24 := Or.inr rfl
  have hR := hT.1
  have hC := hT.2.1
  have hR6 := tR_64 hT
  have hC6 := tC_64 hT
  have pR : 1 ≤ 2 ^ tR T := Nat.one_le_two_pow
  have pC : 1 ≤ 2 ^ tC T := Nat.one_le_two_pow
  have z4 := siz_le hT
  have fre := own_fre oc
  have s24 : 24 ∉ [cn] := own_nm oc rfl
  have s25 : 25 ∉ [cn] := own_nm oc rfl
  have s44 : 44 ∉ [cn] := own_nm oc rfl
  have s51 : 51 ∉ [cn] := own_nm oc rfl
  have ssc : s ∉ [cn] := fun q => nsc (List.mem_singleton.mp q)
  -- second: the most frequent one stays
  have rows2 : ∀ (k i : Nat) (v2 v3 : pm_V) (N : pm_M), i + k = 2 ^ tR T - 1 → Lay N → Fr [cn] M N → (∀ a b, inT T a b → pm_ct N cn (num T a b) = if a ≤ i then ((e0 T a b : Nat) : Int) else ((ta T a b : Nat) : Int)) → Wp (d + 3) 75 119 [(2, ((51 : Nat) : Int)), (0, ((i + 1 : Nat) : Int)), v2, v3] [] N mc ms Q := by
    intro k
    induction k with
    | zero =>
      intro i v2 v3 N hi lay hF hin
      have hM : TbAt N 24 T := hM0.fr hF s24 s25
      refine g_iload_n lk_75_119 rfl ?_
      refine g_aload_n lk_75_120 rfl ?_
      refine g_getfield lk_75_121 rfl (lay.on (by decide) rfl) (v := ((24 : Nat) : Int)) (lay.rf rfl) ?_
      refine g_virtual (p := 24) (Qc := _) lk_75_124 rfl (Nat.le_of_ble_eq_true rfl) rfl rfl (lay.on (by decide) rfl) (Nat.le_of_ble_eq_true rfl) (Nat.le_of_ble_eq_true rfl) (Nat.zero_le _) (Nat.zero_le _) (c_Table_allRows lay ht hT hM) ?_
      rintro _ N1 ⟨rfl, hN1⟩
      rw [hN1]
      show Wp _ 75 127 [(2, ((51 : Nat) : Int)), (0, ((i + 1 : Nat) : Int)), v2, v3] [(0, ((2 ^ tR T - 1 : Nat) : Int)), (0, ((i + 1 : Nat) : Int))] N _ _ _
      refine g_icmp (t := 190) lk_75_127 rfl (by first | (unfold pm_inI; omega) | exact pm_and_in _ _ | exact pm_shr_in _ _ | exact pm_or_in _ _ | exact pm_xor_in _ _ | exact pm_shl_in _ _ | exact pm_cmp_in _ _ | exact pm_b8_in _ | (unfold pm_inI; split <;> omega)) (by first | (unfold pm_inI; omega) | exact pm_and_in _ _ | exact pm_shr_in _ _ | exact pm_or_in _ _ | exact pm_xor_in _ _ | exact pm_shl_in _ _ | exact pm_cmp_in _ _ | exact pm_b8_in _ | (unfold pm_inI; split <;> omega)) (fun h2 => ?_) (fun h2 => ?_)
      · replace h2 : ((2 ^ tR T - 1 : Nat) : Int) < ((i + 1 : Nat) : Int) := h2
        refine g_return lk_75_190 ?_
        rw [hQ]
        exact ⟨rfl, lay, hF, fun a b h => by rw [hin a b h, if_pos (by have := h.2.1; omega)]⟩
      · replace h2 : ¬ (((2 ^ tR T - 1 : Nat) : Int) < ((i + 1 : Nat) : Int)) := h2
        omega
    | succ k ih =>
      intro i v2 v3 N hi lay hF hin
      obtain ⟨rs, hrs⟩ : ∃ rs, rs = i + 1 := ⟨_, rfl⟩
      have inner : ∀ (k j : Nat) (v3 : pm_V) (N : pm_M), j + k = 2 ^ tC T - 1 → Lay N → Fr [cn] M N → (∀ a b, inT T a b → pm_ct N cn (num T a b) = if a ≤ i ∨ a = rs ∧ b ≤ j then ((e0 T a b : Nat) : Int) else ((ta T a b : Nat) : Int)) → Wp (d + 3) 75 132 [(2, ((51 : Nat) : Int)), (0, (rs : Int)), (0, ((j + 1 : Nat) : Int)), v3] [] N mc ms Q := by
        intro k
        induction k with
        | zero =>
          intro j v3 N hj lay hF hin
          have hM : TbAt N 24 T := hM0.fr hF s24 s25
          have := fun v2 v3 => ih (i + 1) v2 v3 N (by omega) lay hF (fun a b h => by
            rw [hin a b h]
            have h1 := h.2.2.2
            by_cases e : a ≤ i + 1
            · rw [if_pos (by omega), if_pos e]
            · rw [if_neg (by omega), if_neg e])
          rw [← hrs] at this
          refine g_iload_n lk_75_132 rfl ?_
          refine g_aload_n lk_75_133 rfl ?_
          refine g_getfield lk_75_134 rfl (lay.on (by decide) rfl) (v := ((24 : Nat) : Int)) (lay.rf rfl) ?_
          refine g_virtual (p := 24) (Qc := _) lk_75_137 rfl (Nat.le_of_ble_eq_true rfl) rfl rfl (lay.on (by decide) rfl) (Nat.le_of_ble_eq_true rfl) (Nat.le_of_ble_eq_true rfl) (Nat.zero_le _) (Nat.zero_le _) (c_Table_allColumns lay ht hT hM) ?_
          rintro _ N1 ⟨rfl, hN1⟩
          rw [hN1]
          show Wp _ 75 140 [(2, ((51 : Nat) : Int)), (0, (rs : Int)), (0, ((j + 1 : Nat) : Int)), v3] [(0, ((2 ^ tC T - 1 : Nat) : Int)), (0, ((j + 1 : Nat) : Int))] N _ _ _
          refine g_icmp (t := 184) lk_75_140 rfl (by first | (unfold pm_inI; omega) | exact pm_and_in _ _ | exact pm_shr_in _ _ | exact pm_or_in _ _ | exact pm_xor_in _ _ | exact pm_shl_in _ _ | exact pm_cmp_in _ _ | exact pm_b8_in _ | (unfold pm_inI; split <;> omega)) (by first | (unfold pm_inI; omega) | exact pm_and_in _ _ | exact pm_shr_in _ _ | exact pm_or_in _ _ | exact pm_xor_in _ _ | exact pm_shl_in _ _ | exact pm_cmp_in _ _ | exact pm_b8_in _ | (unfold pm_inI; split <;> omega)) (fun h2 => ?_) (fun h2 => ?_)
          · replace h2 : ((2 ^ tC T - 1 : Nat) : Int) < ((j + 1 : Nat) : Int) := h2
            refine g_iinc (ls' := [(2, ((51 : Nat) : Int)), (0, ((rs : Int) + 1)), (0, ((j + 1 : Nat) : Int)), v3]) lk_75_184 rfl rfl rfl ?_
            refine g_goto (t := 119) lk_75_187 rfl ?_
            exact this _ _
          · replace h2 : ¬ (((2 ^ tC T - 1 : Nat) : Int) < ((j + 1 : Nat) : Int)) := h2
            omega
        | succ k ihk =>
          intro j v3 N hj lay hF hin
          have hM : TbAt N 24 T := hM0.fr hF s24 s25
          have hA : CA N T s 1 := hA0.fr hF.gr (by rw [hF.ct s44]) (by rw [hF.ct s44]) ssc
          obtain ⟨cs, hcs⟩ : ∃ cs, cs = j + 1 := ⟨_, rfl⟩
          rw [← hcs]
          have h3 : pm_ct N 51 3 = ((cn : Nat) : Int) := by rw [hF.ct s51]; exact w3
          have hi2 : inT T rs cs := ⟨by omega, by omega, by omega, by omega⟩
          have rd := hin rs cs hi2
          rw [if_neg (by omega)] at rd
          have nl := num_lt (T := T) hi2.2.1 hi2.2.2.2
          have m1 := mx_nA T rs cs 10 (by omega)
          have m2 := nA_36 hT rs cs
          obtain ⟨t, htt⟩ : ∃ t, t = ta T rs cs := ⟨_, rfl⟩
          have mi := c_Spoilt_mostIn (d := d + 1) (mc := 0) (ms := 0) (M := N) hT (rs := rs) (cs := cs)
          rw [← htt] at rd mi
          refine g_iload_n lk_75_132 rfl ?_
          refine g_aload_n lk_75_133 rfl ?_
          refine g_getfield lk_75_134 rfl (lay.on (by decide) rfl) (v := ((24 : Nat) : Int)) (lay.rf rfl) ?_
          refine g_virtual (p := 24) (Qc := _) lk_75_137 rfl (Nat.le_of_ble_eq_true rfl) rfl rfl (lay.on (by decide) rfl) (Nat.le_of_ble_eq_true rfl) (Nat.le_of_ble_eq_true rfl) (Nat.zero_le _) (Nat.zero_le _) (c_Table_allColumns lay ht hT hM) ?_
          rintro _ N1 ⟨rfl, hN1⟩
          rw [hN1]
          show Wp _ 75 140 [(2, ((51 : Nat) : Int)), (0, (rs : Int)), (0, (cs : Int)), v3] [(0, ((2 ^ tC T - 1 : Nat) : Int)), (0, (cs : Int))] N _ _ _
          refine g_icmp (t := 184) lk_75_140 rfl (by first | (unfold pm_inI; omega) | exact pm_and_in _ _ | exact pm_shr_in _ _ | exact pm_or_in _ _ | exact pm_xor_in _ _ | exact pm_shl_in _ _ | exact pm_cmp_in _ _ | exact pm_b8_in _ | (unfold pm_inI; split <;> omega)) (by first | (unfold pm_inI; omega) | exact pm_and_in _ _ | exact pm_shr_in _ _ | exact pm_or_in _ _ | exact pm_xor_in _ _ | exact pm_shl_in _ _ | exact pm_cmp_in _ _ | exact pm_b8_in _ | (unfold pm_inI; split <;> omega)) (fun h2 => ?_) (fun h2 => ?_)
          · replace h2 : ((2 ^ tC T - 1 : Nat) : Int) < (cs : Int) := h2
            refine g_iinc (ls' := [(2, ((51 : Nat) : Int)), (0, ((rs : Int) + 1)), (0, (cs : Int)), v3]) lk_75_184 rfl rfl rfl ?_
            refine g_goto (t := 119) lk_75_187 rfl ?_
            omega
          · replace h2 : ¬ (((2 ^ tC T - 1 : Nat) : Int) < (cs : Int)) := h2
            refine g_aload_n lk_75_143 rfl ?_
            refine g_getfield lk_75_144 rfl (lay.on (by decide) rfl) (v := ((44 : Nat) : Int)) (lay.rf rfl) ?_
            refine g_iload_n lk_75_147 rfl ?_
            refine g_iload_n lk_75_148 rfl ?_
            refine g_virtual (p := 44) (Qc := _) lk_75_149 rfl (Nat.le_of_ble_eq_true rfl) rfl rfl (lay.on (by decide) rfl) (Nat.le_of_ble_eq_true rfl) (Nat.le_of_ble_eq_true rfl) (Nat.zero_le _) (Nat.zero_le _) (c_Areas_numberOf lay hT hM (by omega) (by omega)) ?_
            rintro _ N3 ⟨rfl, hN3⟩
            rw [hN3]
            show Wp _ 75 152 [(2, ((51 : Nat) : Int)), (0, (rs : Int)), (0, (cs : Int)), v3] [(0, (num T rs cs : Int))] N _ _ _
            refine g_istore_n (ls' := [(2, ((51 : Nat) : Int)), (0, (rs : Int)), (0, (cs : Int)), (0, (num T rs cs : Int))]) lk_75_152 rfl rfl ?_
            refine g_aload_n lk_75_153 rfl ?_
            refine m_getfield (u := []) (M := N) lk_75_154 rfl (lay.on (by decide) rfl) (v := ((cn : Nat) : Int)) h3 ?_
            refine g_iload_n lk_75_157 rfl ?_
            refine g_aload_n lk_75_158 rfl ?_
            refine g_getfield lk_75_159 rfl (lay.on (by decide) rfl) (v := ((44 : Nat) : Int)) (lay.rf rfl) ?_
            refine g_iload_n lk_75_162 rfl ?_
            refine g_virtual (p := 44) (Qc := _) lk_75_163 rfl (Nat.le_of_ble_eq_true rfl) rfl rfl (lay.on (by decide) rfl) (Nat.le_of_ble_eq_true rfl) (Nat.le_of_ble_eq_true rfl) (Nat.zero_le _) (Nat.zero_le _) (c_Areas_filledOf lay hT hA hi2.1 hi2.2.1 hi2.2.2.1 hi2.2.2.2) ?_
            rintro _ N4 ⟨rfl, hN4⟩
            rw [hN4]
            show Wp _ 75 166 [(2, ((51 : Nat) : Int)), (0, (rs : Int)), (0, (cs : Int)), (0, (num T rs cs : Int))] [(0, (nA T rs cs : Int)), (0, (num T rs cs : Int)), (2, ((cn : Nat) : Int))] N _ _ _
            refine g_aload_n lk_75_166 rfl ?_
            refine m_getfield (u := []) (M := N) lk_75_167 rfl (lay.on (by decide) rfl) (v := ((cn : Nat) : Int)) h3 ?_
            refine g_iload_n lk_75_170 rfl ?_
            refine g_laload lk_75_171 (hF.ay hay0) (by omega) (v := (t : Int)) rd ?_
            refine g_static (Qc := _) lk_75_172 (by decide) rfl (Nat.le_of_ble_eq_true rfl) rfl rfl (Nat.le_of_ble_eq_true rfl) (Nat.le_of_ble_eq_true rfl) (Nat.zero_le _) (Nat.zero_le _) (mi) ?_
            rintro _ N5 ⟨rfl, hN5⟩
            rw [hN5]
            show Wp _ 75 175 [(2, ((51 : Nat) : Int)), (0, (rs : Int)), (0, (cs : Int)), (0, (num T rs cs : Int))] [(0, (mx T rs cs 10 : Int)), (0, (nA T rs cs : Int)), (0, (num T rs cs : Int)), (2, ((cn : Nat) : Int))] N _ _ _
            refine g_isub lk_75_175 ?_
            refine g_i2l lk_75_176 (by unfold pm_inI; omega) ?_
            refine s_lastore (M := N) lk_75_177 (hF.ay hay0) (by omega) (j := (num T rs cs)) (by omega) (fun N6 hN6 => ?_)
            have lay6 : Lay N6 := (by rw [hN6]; exact lay.upA fre)
            refine g_iinc (ls' := [(2, ((51 : Nat) : Int)), (0, (rs : Int)), (0, ((cs : Int) + 1)), (0, (num T rs cs : Int))]) lk_75_178 rfl rfl rfl ?_
            refine g_goto (t := 132) lk_75_181 rfl ?_
            have := ihk (j + 1) (0, (num T rs cs : Int)) N6 (by omega) lay6 (hF.trans (Fr.up (List.mem_singleton.mpr rfl) hN6)) (fun a b h => ?_)
            · rw [← hcs] at this; exact this
            · rw [up_ct hN6]
              by_cases e : a = rs ∧ b = cs
              · rw [e.1, e.2, pm_upd_eq, if_pos (by omega)]
                unfold e0; omega
              · rw [pm_upd_ne (fun q => e (num_inj (T := T) h.2.2.2 hi2.2.2.2 q)), hin a b h]
                by_cases e2 : a ≤ i ∨ a = rs ∧ b ≤ j
                · rw [if_pos e2, if_pos (by omega)]
                · rw [if_neg e2, if_neg (by omega)]
      have hM : TbAt N 24 T := hM0.fr hF s24 s25
      rw [← hrs]
      refine g_iload_n lk_75_119 rfl ?_
      refine g_aload_n lk_75_120 rfl ?_
      refine g_getfield lk_75_121 rfl (lay.on (by decide) rfl) (v := ((24 : Nat) : Int)) (lay.rf rfl) ?_
      refine g_virtual (p := 24) (Qc := _) lk_75_124 rfl (Nat.le_of_ble_eq_true rfl) rfl rfl (lay.on (by decide) rfl) (Nat.le_of_ble_eq_true rfl) (Nat.le_of_ble_eq_true rfl) (Nat.zero_le _) (Nat.zero_le _) (c_Table_allRows lay ht hT hM) ?_
      rintro _ N1 ⟨rfl, hN1⟩
      rw [hN1]
      show Wp _ 75 127 [(2, ((51 : Nat) : Int)), (0, (rs : Int)), v2, v3] [(0, ((2 ^ tR T - 1 : Nat) : Int)), (0, (rs : Int))] N _ _ _
      refine g_icmp (t := 190) lk_75_127 rfl (by first | (unfold pm_inI; omega) | exact pm_and_in _ _ | exact pm_shr_in _ _ | exact pm_or_in _ _ | exact pm_xor_in _ _ | exact pm_shl_in _ _ | exact pm_cmp_in _ _ | exact pm_b8_in _ | (unfold pm_inI; split <;> omega)) (by first | (unfold pm_inI; omega) | exact pm_and_in _ _ | exact pm_shr_in _ _ | exact pm_or_in _ _ | exact pm_xor_in _ _ | exact pm_shl_in _ _ | exact pm_cmp_in _ _ | exact pm_b8_in _ | (unfold pm_inI; split <;> omega)) (fun h2 => ?_) (fun h2 => ?_)
      · replace h2 : ((2 ^ tR T - 1 : Nat) : Int) < (rs : Int) := h2
        refine g_return lk_75_190 ?_
        omega
      · replace h2 : ¬ (((2 ^ tR T - 1 : Nat) : Int) < (rs : Int)) := h2
        refine g_iconst lk_75_130 ?_
        refine g_istore_n (ls' := [(2, ((51 : Nat) : Int)), (0, (rs : Int)), (0, 1), v3]) lk_75_131 rfl rfl ?_
        refine inner (2 ^ tC T - 1) 0 _ N (by omega) lay hF (fun a b h => ?_)
        rw [hin a b h]
        have h1 := h.2.2.1
        by_cases e : a ≤ i
        · rw [if_pos e, if_pos (by omega)]
        · rw [if_neg e, if_neg (by omega)]
  -- first: all values counted
  have rows1 : ∀ (k i : Nat) (v2 v3 : pm_V) (N : pm_M), i + k = 2 ^ tR T - 1 → Lay N → Fr [cn] M N → (∀ a b, 1 ≤ a → a ≤ i → b < 2 ^ tC T → pm_ct N cn (num T a b) = ((ta T a b : Nat) : Int)) → Wp (d + 3) 75 2 [(2, ((51 : Nat) : Int)), (0, ((i + 1 : Nat) : Int)), v2, v3] [] N mc ms Q := by
    intro k
    induction k with
    | zero =>
      intro i v2 v3 N hi lay hF hin
      have hM : TbAt N 24 T := hM0.fr hF s24 s25
      refine g_iload_n lk_75_2 rfl ?_
      refine g_aload_n lk_75_3 rfl ?_
      refine g_getfield lk_75_4 rfl (lay.on (by decide) rfl) (v := ((24 : Nat) : Int)) (lay.rf rfl) ?_
      refine g_virtual (p := 24) (Qc := _) lk_75_7 rfl (Nat.le_of_ble_eq_true rfl) rfl rfl (lay.on (by decide) rfl) (Nat.le_of_ble_eq_true rfl) (Nat.le_of_ble_eq_true rfl) (Nat.zero_le _) (Nat.zero_le _) (c_Table_allRows lay ht hT hM) ?_
      rintro _ N1 ⟨rfl, hN1⟩
      rw [hN1]
      show Wp _ 75 10 [(2, ((51 : Nat) : Int)), (0, ((i + 1 : Nat) : Int)), v2, v3] [(0, ((2 ^ tR T - 1 : Nat) : Int)), (0, ((i + 1 : Nat) : Int))] N _ _ _
      refine g_icmp (t := 117) lk_75_10 rfl (by first | (unfold pm_inI; omega) | exact pm_and_in _ _ | exact pm_shr_in _ _ | exact pm_or_in _ _ | exact pm_xor_in _ _ | exact pm_shl_in _ _ | exact pm_cmp_in _ _ | exact pm_b8_in _ | (unfold pm_inI; split <;> omega)) (by first | (unfold pm_inI; omega) | exact pm_and_in _ _ | exact pm_shr_in _ _ | exact pm_or_in _ _ | exact pm_xor_in _ _ | exact pm_shl_in _ _ | exact pm_cmp_in _ _ | exact pm_b8_in _ | (unfold pm_inI; split <;> omega)) (fun h2 => ?_) (fun h2 => ?_)
      · replace h2 : ((2 ^ tR T - 1 : Nat) : Int) < ((i + 1 : Nat) : Int) := h2
        refine g_iconst lk_75_117 ?_
        refine g_istore_n (ls' := [(2, ((51 : Nat) : Int)), (0, 1), v2, v3]) lk_75_118 rfl rfl ?_
        refine rows2 (2 ^ tR T - 1) 0 _ _ N (by omega) lay hF (fun a b h => ?_)
        rw [if_neg (by have := h.1; omega)]
        exact hin a b h.1 (by have := h.2.1; omega) h.2.2.2
      · replace h2 : ¬ (((2 ^ tR T - 1 : Nat) : Int) < ((i + 1 : Nat) : Int)) := h2
        omega
    | succ k ih =>
      intro i v2 v3 N hi lay hF hin
      have hM : TbAt N 24 T := hM0.fr hF s24 s25
      obtain ⟨rs, hrs⟩ : ∃ rs, rs = i + 1 := ⟨_, rfl⟩
      obtain ⟨q0, q5, q1, q2, q6, q3, q4, q7, q8⟩ := lw_tab ⟨rs, by omega⟩ (by show rs ≠ 0; omega)
      have lb := lw_bits ⟨rs, by omega⟩ (by show rs ≠ 0; omega)
      replace lb : ∀ j : Fin 6, rs.testBit (j : Nat) = ((lw rs).testBit (j : Nat) || (rs - lw rs).testBit (j : Nat)) ∧ ((lw rs).testBit (j : Nat) && (rs - lw rs).testBit (j : Nat)) = false := lb
      have fR := lw_fst (s := rs) (n := tR T) (by omega) (by omega) (by omega)
      obtain ⟨fb, hfb⟩ : ∃ fb, fb = fstb rs := ⟨_, rfl⟩
      have elw : lw rs = 2 ^ fb := by rw [hfb]; rfl
      rw [← hfb] at fR
      obtain ⟨lo, hlo⟩ : ∃ lo, lo = lw rs := ⟨_, rfl⟩
      obtain ⟨re, hre⟩ : ∃ re, re = rs - lw rs := ⟨_, rfl⟩
      replace q0 : pm_and (rs : Int) (-(rs : Int)) = (lo : Int) := by rw [hlo]; exact q0
      replace q5 : pm_xor (rs : Int) (lo : Int) = (re : Int) := by rw [hlo, hre]; exact q5
      replace q1 : 1 ≤ lo := by rw [hlo]; exact q1
      replace q2 : lo ≤ rs := by rw [hlo]; exact q2
      rw [← hre, ← hlo] at lb
      rw [← hlo] at hre elw
      have inner : ∀ (k j : Nat) (N : pm_M), j + k = 2 ^ tC T - 1 → Lay N → Fr [cn] M N → (∀ a b, 1 ≤ a → a ≤ i → b < 2 ^ tC T → pm_ct N cn (num T a b) = ((ta T a b : Nat) : Int)) → (∀ b, b ≤ j → pm_ct N cn (num T rs b) = ((ta T rs b : Nat) : Int)) → Wp (d + 3) 75 35 [(2, ((51 : Nat) : Int)), (0, (rs : Int)), (0, (lo : Int)), (0, ((j + 1 : Nat) : Int))] [] N mc ms Q := by
        intro k
        induction k with
        | zero =>
          intro j N hj lay hF hin hro
          have hM : TbAt N 24 T := hM0.fr hF s24 s25
          have := fun v2 v3 => ih (i + 1) v2 v3 N (by omega) lay hF (fun a b c1 c2 c3 => by
            by_cases e : a = rs
            · rw [e]; exact hro b (by omega)
            · exact hin a b c1 (by omega) c3)
          rw [← hrs] at this
          refine g_iload_n lk_75_35 rfl ?_
          refine g_aload_n lk_75_36 rfl ?_
          refine g_getfield lk_75_37 rfl (lay.on (by decide) rfl) (v := ((24 : Nat) : Int)) (lay.rf rfl) ?_
          refine g_virtual (p := 24) (Qc := _) lk_75_40 rfl (Nat.le_of_ble_eq_true rfl) rfl rfl (lay.on (by decide) rfl) (Nat.le_of_ble_eq_true rfl) (Nat.le_of_ble_eq_true rfl) (Nat.zero_le _) (Nat.zero_le _) (c_Table_allColumns lay ht hT hM) ?_
          rintro _ N1 ⟨rfl, hN1⟩
          rw [hN1]
          show Wp _ 75 43 [(2, ((51 : Nat) : Int)), (0, (rs : Int)), (0, (lo : Int)), (0, ((j + 1 : Nat) : Int))] [(0, ((2 ^ tC T - 1 : Nat) : Int)), (0, ((j + 1 : Nat) : Int))] N _ _ _
          refine g_icmp (t := 111) lk_75_43 rfl (by first | (unfold pm_inI; omega) | exact pm_and_in _ _ | exact pm_shr_in _ _ | exact pm_or_in _ _ | exact pm_xor_in _ _ | exact pm_shl_in _ _ | exact pm_cmp_in _ _ | exact pm_b8_in _ | (unfold pm_inI; split <;> omega)) (by first | (unfold pm_inI; omega) | exact pm_and_in _ _ | exact pm_shr_in _ _ | exact pm_or_in _ _ | exact pm_xor_in _ _ | exact pm_shl_in _ _ | exact pm_cmp_in _ _ | exact pm_b8_in _ | (unfold pm_inI; split <;> omega)) (fun h2 => ?_) (fun h2 => ?_)
          · replace h2 : ((2 ^ tC T - 1 : Nat) : Int) < ((j + 1 : Nat) : Int) := h2
            refine g_iinc (ls' := [(2, ((51 : Nat) : Int)), (0, ((rs : Int) + 1)), (0, (lo : Int)), (0, ((j + 1 : Nat) : Int))]) lk_75_111 rfl rfl rfl ?_
            refine g_goto (t := 2) lk_75_114 rfl ?_
            exact this _ _
          · replace h2 : ¬ (((2 ^ tC T - 1 : Nat) : Int) < ((j + 1 : Nat) : Int)) := h2
            omega
        | succ k ihk =>
          intro j N hj lay hF hin hro
          have hM : TbAt N 24 T := hM0.fr hF s24 s25
          obtain ⟨cs, hcs⟩ : ∃ cs, cs = j + 1 := ⟨_, rfl⟩
          rw [← hcs]
          have h3 : pm_ct N 51 3 = ((cn : Nat) : Int) := by rw [hF.ct s51]; exact w3
          have csC : cs < 2 ^ tC T := by omega
          have nl := num_lt (T := T) (show rs < 2 ^ tR T by omega) csC
          have nl2 := num_lt (T := T) (show lo < 2 ^ tR T by omega) csC
          have nl3 := num_lt (T := T) (show re < 2 ^ tR T by omega) csC
          have next : ∀ (N' : pm_M) (z : Int), N' = pm_up N cn (pm_upd (pm_ct N cn) (num T rs cs) z) → Lay N' → z = (ta T rs cs : Int) → Wp (d + 3) 75 35 [(2, ((51 : Nat) : Int)), (0, (rs : Int)), (0, (lo : Int)), (0, ((cs + 1 : Nat) : Int))] [] N' mc ms Q := by
            intro N' z hN' lay' hz
            have := ihk (j + 1) N' (by omega) lay' (hF.trans (Fr.up (List.mem_singleton.mpr rfl) hN')) (fun a b c1 c2 c3 => ?_) (fun b c1 => ?_)
            · rw [← hcs] at this; exact this
            · rw [up_ct hN', pm_upd_ne (fun q => by have := (num_inj (T := T) c3 csC q).1; omega)]; exact hin a b c1 c2 c3
            · rw [up_ct hN']
              by_cases e : b = cs
              · rw [e, pm_upd_eq, hz]
              · rw [pm_upd_ne (fun q => e (num_inj (T := T) (by omega) csC q).2)]; exact hro b (by omega)
          by_cases hlr : lo = rs
          · have ers : rs = 2 ^ fb := by omega
            have tr := c_Spoilt_tallyInRow (d := d) (mc := 0) (ms := 0) lay hT hM oc h3 (hF.ay hay0) hn fR (cs := cs) (by omega) csC (fun q hq => by rw [← ers]; exact hro q (by omega))
            rw [← ers] at tr
            rw [hlr]
            rw [hlr] at next
            refine g_iload_n lk_75_35 rfl ?_
            refine g_aload_n lk_75_36 rfl ?_
            refine g_getfield lk_75_37 rfl (lay.on (by decide) rfl) (v := ((24 : Nat) : Int)) (lay.rf rfl) ?_
            refine g_virtual (p := 24) (Qc := _) lk_75_40 rfl (Nat.le_of_ble_eq_true rfl) rfl rfl (lay.on (by decide) rfl) (Nat.le_of_ble_eq_true rfl) (Nat.le_of_ble_eq_true rfl) (Nat.zero_le _) (Nat.zero_le _) (c_Table_allColumns lay ht hT hM) ?_
            rintro _ N1 ⟨rfl, hN1⟩
            rw [hN1]
            show Wp _ 75 43 [(2, ((51 : Nat) : Int)), (0, (rs : Int)), (0, (rs : Int)), (0, (cs : Int))] [(0, ((2 ^ tC T - 1 : Nat) : Int)), (0, (cs : Int))] N _ _ _
            refine g_icmp (t := 111) lk_75_43 rfl (by first | (unfold pm_inI; omega) | exact pm_and_in _ _ | exact pm_shr_in _ _ | exact pm_or_in _ _ | exact pm_xor_in _ _ | exact pm_shl_in _ _ | exact pm_cmp_in _ _ | exact pm_b8_in _ | (unfold pm_inI; split <;> omega)) (by first | (unfold pm_inI; omega) | exact pm_and_in _ _ | exact pm_shr_in _ _ | exact pm_or_in _ _ | exact pm_xor_in _ _ | exact pm_shl_in _ _ | exact pm_cmp_in _ _ | exact pm_b8_in _ | (unfold pm_inI; split <;> omega)) (fun h2 => ?_) (fun h2 => ?_)
            · replace h2 : ((2 ^ tC T - 1 : Nat) : Int) < (cs : Int) := h2
              refine g_iinc (ls' := [(2, ((51 : Nat) : Int)), (0, ((rs : Int) + 1)), (0, (rs : Int)), (0, (cs : Int))]) lk_75_111 rfl rfl rfl ?_
              refine g_goto (t := 2) lk_75_114 rfl ?_
              omega
            · replace h2 : ¬ (((2 ^ tC T - 1 : Nat) : Int) < (cs : Int)) := h2
              refine g_aload_n lk_75_46 rfl ?_
              refine m_getfield (u := []) (M := N) lk_75_47 rfl (lay.on (by decide) rfl) (v := ((cn : Nat) : Int)) h3 ?_
              refine g_aload_n lk_75_50 rfl ?_
              refine g_getfield lk_75_51 rfl (lay.on (by decide) rfl) (v := ((44 : Nat) : Int)) (lay.rf rfl) ?_
              refine g_iload_n lk_75_54 rfl ?_
              refine g_iload_n lk_75_55 rfl ?_
              refine g_virtual (p := 44) (Qc := _) lk_75_56 rfl (Nat.le_of_ble_eq_true rfl) rfl rfl (lay.on (by decide) rfl) (Nat.le_of_ble_eq_true rfl) (Nat.le_of_ble_eq_true rfl) (Nat.zero_le _) (Nat.zero_le _) (c_Areas_numberOf lay hT hM (by omega) (by omega)) ?_
              rintro _ N3 ⟨rfl, hN3⟩
              rw [hN3]
              show Wp _ 75 59 [(2, ((51 : Nat) : Int)), (0, (rs : Int)), (0, (rs : Int)), (0, (cs : Int))] [(0, (num T rs cs : Int)), (2, ((cn : Nat) : Int))] N _ _ _
              refine g_iload_n lk_75_59 rfl ?_
              refine g_iload_n lk_75_60 rfl ?_
              refine g_icmp (t := 73) lk_75_61 rfl (by first | (unfold pm_inI; omega) | exact pm_and_in _ _ | exact pm_shr_in _ _ | exact pm_or_in _ _ | exact pm_xor_in _ _ | exact pm_shl_in _ _ | exact pm_cmp_in _ _ | exact pm_b8_in _ | (unfold pm_inI; split <;> omega)) (by first | (unfold pm_inI; omega) | exact pm_and_in _ _ | exact pm_shr_in _ _ | exact pm_or_in _ _ | exact pm_xor_in _ _ | exact pm_shl_in _ _ | exact pm_cmp_in _ _ | exact pm_b8_in _ | (unfold pm_inI; split <;> omega)) (fun h4 => ?_) (fun h4 => ?_)
              · replace h4 : ¬ (rs : Int) = (rs : Int) := h4
                omega
              · replace h4 : ¬ (¬ (rs : Int) = (rs : Int)) := h4
                refine g_aload_n lk_75_64 rfl ?_
                refine g_iload_n lk_75_65 rfl ?_
                refine g_iload_n lk_75_66 rfl ?_
                refine g_virtual (p := 51) (Qc := _) lk_75_67 rfl (Nat.le_of_ble_eq_true rfl) rfl rfl (lay.on (by decide) rfl) (Nat.le_of_ble_eq_true rfl) (Nat.le_of_ble_eq_true rfl) (Nat.zero_le _) (Nat.zero_le _) (tr) ?_
                rintro _ N5 ⟨rfl, hN5⟩
                rw [hN5]
                show Wp _ 75 70 [(2, ((51 : Nat) : Int)), (0, (rs : Int)), (0, (rs : Int)), (0, (cs : Int))] [(1, (ta T rs cs : Int)), (0, (num T rs cs : Int)), (2, ((cn : Nat) : Int))] N _ _ _
                refine g_goto (t := 104) lk_75_70 rfl ?_
                refine s_lastore (M := N) lk_75_104 (hF.ay hay0) (by omega) (j := (num T rs cs)) (by omega) (fun N6 hN6 => ?_)
                have lay6 : Lay N6 := (by rw [hN6]; exact lay.upA fre)
                refine g_iinc (ls' := [(2, ((51 : Nat) : Int)), (0, (rs : Int)), (0, (rs : Int)), (0, ((cs : Int) + 1))]) lk_75_105 rfl rfl rfl ?_
                refine g_goto (t := 35) lk_75_108 rfl ?_
                exact next N6 _ hN6 lay6 rfl
          · have r1 := hin lo cs q1 (by omega) csC
            have r2 := hin re cs (by omega) (by omega) csC
            have tr := ta_rows (T := T) (cs := cs) (fun j hj => (lb ⟨j, by omega⟩).1) (fun j hj => (lb ⟨j, by omega⟩).2)
            refine g_iload_n lk_75_35 rfl ?_
            refine g_aload_n lk_75_36 rfl ?_
            refine g_getfield lk_75_37 rfl (lay.on (by decide) rfl) (v := ((24 : Nat) : Int)) (lay.rf rfl) ?_
            refine g_virtual (p := 24) (Qc := _) lk_75_40 rfl (Nat.le_of_ble_eq_true rfl) rfl rfl (lay.on (by decide) rfl) (Nat.le_of_ble_eq_true rfl) (Nat.le_of_ble_eq_true rfl) (Nat.zero_le _) (Nat.zero_le _) (c_Table_allColumns lay ht hT hM) ?_
            rintro _ N1 ⟨rfl, hN1⟩
            rw [hN1]
            show Wp _ 75 43 [(2, ((51 : Nat) : Int)), (0, (rs : Int)), (0, (lo : Int)), (0, (cs : Int))] [(0, ((2 ^ tC T - 1 : Nat) : Int)), (0, (cs : Int))] N _ _ _
            refine g_icmp (t := 111) lk_75_43 rfl (by first | (unfold pm_inI; omega) | exact pm_and_in _ _ | exact pm_shr_in _ _ | exact pm_or_in _ _ | exact pm_xor_in _ _ | exact pm_shl_in _ _ | exact pm_cmp_in _ _ | exact pm_b8_in _ | (unfold pm_inI; split <;> omega)) (by first | (unfold pm_inI; omega) | exact pm_and_in _ _ | exact pm_shr_in _ _ | exact pm_or_in _ _ | exact pm_xor_in _ _ | exact pm_shl_in _ _ | exact pm_cmp_in _ _ | exact pm_b8_in _ | (unfold pm_inI; split <;> omega)) (fun h2 => ?_) (fun h2 => ?_)
            · replace h2 : ((2 ^ tC T - 1 : Nat) : Int) < (cs : Int) := h2
              refine g_iinc (ls' := [(2, ((51 : Nat) : Int)), (0, ((rs : Int) + 1)), (0, (lo : Int)), (0, (cs : Int))]) lk_75_111 rfl rfl rfl ?_
              refine g_goto (t := 2) lk_75_114 rfl ?_
              omega
            · replace h2 : ¬ (((2 ^ tC T - 1 : Nat) : Int) < (cs : Int)) := h2
              refine g_aload_n lk_75_46 rfl ?_
              refine m_getfield (u := []) (M := N) lk_75_47 rfl (lay.on (by decide) rfl) (v := ((cn : Nat) : Int)) h3 ?_
              refine g_aload_n lk_75_50 rfl ?_
              refine g_getfield lk_75_51 rfl (lay.on (by decide) rfl) (v := ((44 : Nat) : Int)) (lay.rf rfl) ?_
              refine g_iload_n lk_75_54 rfl ?_
              refine g_iload_n lk_75_55 rfl ?_
              refine g_virtual (p := 44) (Qc := _) lk_75_56 rfl (Nat.le_of_ble_eq_true rfl) rfl rfl (lay.on (by decide) rfl) (Nat.le_of_ble_eq_true rfl) (Nat.le_of_ble_eq_true rfl) (Nat.zero_le _) (Nat.zero_le _) (c_Areas_numberOf lay hT hM (by omega) (by omega)) ?_
              rintro _ N3 ⟨rfl, hN3⟩
              rw [hN3]
              show Wp _ 75 59 [(2, ((51 : Nat) : Int)), (0, (rs : Int)), (0, (lo : Int)), (0, (cs : Int))] [(0, (num T rs cs : Int)), (2, ((cn : Nat) : Int))] N _ _ _
              refine g_iload_n lk_75_59 rfl ?_
              refine g_iload_n lk_75_60 rfl ?_
              refine g_icmp (t := 73) lk_75_61 rfl (by first | (unfold pm_inI; omega) | exact pm_and_in _ _ | exact pm_shr_in _ _ | exact pm_or_in _ _ | exact pm_xor_in _ _ | exact pm_shl_in _ _ | exact pm_cmp_in _ _ | exact pm_b8_in _ | (unfold pm_inI; split <;> omega)) (by first | (unfold pm_inI; omega) | exact pm_and_in _ _ | exact pm_shr_in _ _ | exact pm_or_in _ _ | exact pm_xor_in _ _ | exact pm_shl_in _ _ | exact pm_cmp_in _ _ | exact pm_b8_in _ | (unfold pm_inI; split <;> omega)) (fun h4 => ?_) (fun h4 => ?_)
              · replace h4 : ¬ (lo : Int) = (rs : Int) := h4
                refine g_aload_n lk_75_73 rfl ?_
                refine m_getfield (u := []) (M := N) lk_75_74 rfl (lay.on (by decide) rfl) (v := ((cn : Nat) : Int)) h3 ?_
                refine g_aload_n lk_75_77 rfl ?_
                refine g_getfield lk_75_78 rfl (lay.on (by decide) rfl) (v := ((44 : Nat) : Int)) (lay.rf rfl) ?_
                refine g_iload_n lk_75_81 rfl ?_
                refine g_iload_n lk_75_82 rfl ?_
                refine g_virtual (p := 44) (Qc := _) lk_75_83 rfl (Nat.le_of_ble_eq_true rfl) rfl rfl (lay.on (by decide) rfl) (Nat.le_of_ble_eq_true rfl) (Nat.le_of_ble_eq_true rfl) (Nat.zero_le _) (Nat.zero_le _) (c_Areas_numberOf lay hT hM (by omega) (by omega)) ?_
                rintro _ N5 ⟨rfl, hN5⟩
                rw [hN5]
                show Wp _ 75 86 [(2, ((51 : Nat) : Int)), (0, (rs : Int)), (0, (lo : Int)), (0, (cs : Int))] [(0, (num T lo cs : Int)), (2, ((cn : Nat) : Int)), (0, (num T rs cs : Int)), (2, ((cn : Nat) : Int))] N _ _ _
                refine g_laload lk_75_86 (hF.ay hay0) (by omega) (v := ((ta T lo cs : Nat) : Int)) r1 ?_
                refine g_aload_n lk_75_87 rfl ?_
                refine m_getfield (u := []) (M := N) lk_75_88 rfl (lay.on (by decide) rfl) (v := ((cn : Nat) : Int)) h3 ?_
                refine g_aload_n lk_75_91 rfl ?_
                refine g_getfield lk_75_92 rfl (lay.on (by decide) rfl) (v := ((44 : Nat) : Int)) (lay.rf rfl) ?_
                refine g_iload_n lk_75_95 rfl ?_
                refine g_iload_n lk_75_96 rfl ?_
                refine g_ixor lk_75_97 ?_
                refine g_top (z := (pm_xor (rs : Int) (lo : Int))) (z' := (re : Int)) (q5) ?_
                refine g_iload_n lk_75_98 rfl ?_
                refine g_virtual (p := 44) (Qc := _) lk_75_99 rfl (Nat.le_of_ble_eq_true rfl) rfl rfl (lay.on (by decide) rfl) (Nat.le_of_ble_eq_true rfl) (Nat.le_of_ble_eq_true rfl) (Nat.zero_le _) (Nat.zero_le _) (c_Areas_numberOf lay hT hM (by omega) (by omega)) ?_
                rintro _ N6 ⟨rfl, hN6⟩
                rw [hN6]
                show Wp _ 75 102 [(2, ((51 : Nat) : Int)), (0, (rs : Int)), (0, (lo : Int)), (0, (cs : Int))] [(0, (num T re cs : Int)), (2, ((cn : Nat) : Int)), (1, ((ta T lo cs : Nat) : Int)), (0, (num T rs cs : Int)), (2, ((cn : Nat) : Int))] N _ _ _
                refine g_laload lk_75_102 (hF.ay hay0) (by omega) (v := ((ta T re cs : Nat) : Int)) r2 ?_
                refine g_ladd lk_75_103 ?_
                refine s_lastore (M := N) lk_75_104 (hF.ay hay0) (by omega) (j := (num T rs cs)) (by omega) (fun N7 hN7 => ?_)
                have lay7 : Lay N7 := (by rw [hN7]; exact lay.upA fre)
                refine g_iinc (ls' := [(2, ((51 : Nat) : Int)), (0, (rs : Int)), (0, (lo : Int)), (0, ((cs : Int) + 1))]) lk_75_105 rfl rfl rfl ?_
                refine g_goto (t := 35) lk_75_108 rfl ?_
                exact next N7 _ hN7 lay7 (by rw [tr]; omega)
              · replace h4 : ¬ (¬ (lo : Int) = (rs : Int)) := h4
                omega
      rw [← hrs]
      have h3 : pm_ct N 51 3 = ((cn : Nat) : Int) := by rw [hF.ct s51]; exact w3
      have pc : 0 < 2 ^ tC T := Nat.two_pow_pos _
      have n0 := num_lt (T := T) (show rs < 2 ^ tR T by omega) pc
      refine g_iload_n lk_75_2 rfl ?_
      refine g_aload_n lk_75_3 rfl ?_
      refine g_getfield lk_75_4 rfl (lay.on (by decide) rfl) (v := ((24 : Nat) : Int)) (lay.rf rfl) ?_
      refine g_virtual (p := 24) (Qc := _) lk_75_7 rfl (Nat.le_of_ble_eq_true rfl) rfl rfl (lay.on (by decide) rfl) (Nat.le_of_ble_eq_true rfl) (Nat.le_of_ble_eq_true rfl) (Nat.zero_le _) (Nat.zero_le _) (c_Table_allRows lay ht hT hM) ?_
      rintro _ N1 ⟨rfl, hN1⟩
      rw [hN1]
      show Wp _ 75 10 [(2, ((51 : Nat) : Int)), (0, (rs : Int)), v2, v3] [(0, ((2 ^ tR T - 1 : Nat) : Int)), (0, (rs : Int))] N _ _ _
      refine g_icmp (t := 117) lk_75_10 rfl (by first | (unfold pm_inI; omega) | exact pm_and_in _ _ | exact pm_shr_in _ _ | exact pm_or_in _ _ | exact pm_xor_in _ _ | exact pm_shl_in _ _ | exact pm_cmp_in _ _ | exact pm_b8_in _ | (unfold pm_inI; split <;> omega)) (by first | (unfold pm_inI; omega) | exact pm_and_in _ _ | exact pm_shr_in _ _ | exact pm_or_in _ _ | exact pm_xor_in _ _ | exact pm_shl_in _ _ | exact pm_cmp_in _ _ | exact pm_b8_in _ | (unfold pm_inI; split <;> omega)) (fun h2 => ?_) (fun h2 => ?_)
      · replace h2 : ((2 ^ tR T - 1 : Nat) : Int) < (rs : Int) := h2
        omega
      · replace h2 : ¬ (((2 ^ tR T - 1 : Nat) : Int) < (rs : Int)) := h2
        refine g_iload_n lk_75_13 rfl ?_
        refine g_iload_n lk_75_14 rfl ?_
        refine g_ineg lk_75_15 ?_
        refine g_iand lk_75_16 ?_
        refine g_top (z := (pm_and (rs : Int) (-(rs : Int)))) (z' := (lo : Int)) (q0) ?_
        refine g_istore_n (ls' := [(2, ((51 : Nat) : Int)), (0, (rs : Int)), (0, (lo : Int)), v3]) lk_75_17 rfl rfl ?_
        refine g_aload_n lk_75_18 rfl ?_
        refine m_getfield (u := []) (M := N) lk_75_19 rfl (lay.on (by decide) rfl) (v := ((cn : Nat) : Int)) h3 ?_
        refine g_aload_n lk_75_22 rfl ?_
        refine g_getfield lk_75_23 rfl (lay.on (by decide) rfl) (v := ((44 : Nat) : Int)) (lay.rf rfl) ?_
        refine g_iload_n lk_75_26 rfl ?_
        refine g_iconst lk_75_27 ?_
        refine g_virtual (p := 44) (Qc := _) lk_75_28 rfl (Nat.le_of_ble_eq_true rfl) rfl rfl (lay.on (by decide) rfl) (Nat.le_of_ble_eq_true rfl) (Nat.le_of_ble_eq_true rfl) (Nat.zero_le _) (Nat.zero_le _) (c_Areas_numberOf (cs := 0) lay hT hM (by omega) pc) ?_
        rintro _ N3 ⟨rfl, hN3⟩
        rw [hN3]
        show Wp _ 75 31 [(2, ((51 : Nat) : Int)), (0, (rs : Int)), (0, (lo : Int)), v3] [(0, (num T rs 0 : Int)), (2, ((cn : Nat) : Int))] N _ _ _
        refine g_lconst lk_75_31 ?_
        refine s_lastore (M := N) lk_75_32 (hF.ay hay0) (by omega) (j := (num T rs 0)) (by omega) (fun N4 hN4 => ?_)
        have lay4 : Lay N4 := (by rw [hN4]; exact lay.upA fre)
        refine g_iconst lk_75_33 ?_
        refine g_istore_n (ls' := [(2, ((51 : Nat) : Int)), (0, (rs : Int)), (0, (lo : Int)), (0, 1)]) lk_75_34 rfl rfl ?_
        refine inner (2 ^ tC T - 1) 0 N4 (by omega) lay4 (hF.trans (Fr.up (List.mem_singleton.mpr rfl) hN4)) (fun a b c1 c2 c3 => ?_) (fun b c1 => ?_)
        · rw [up_ct hN4, pm_upd_ne (fun q => by have := (num_inj (T := T) c3 pc q).1; omega)]; exact hin a b c1 c2 c3
        · rw [show b = 0 by omega, up_ct hN4, pm_upd_eq, ta_c0]; rfl
  show Wp (d + 3) 75 0 [(2, ((51 : Nat) : Int)), (9, 0), (9, 0), (9, 0)] [] M mc ms Q
  refine g_iconst lk_75_0 ?_
  refine g_istore_n (ls' := [(2, ((51 : Nat) : Int)), (0, 1), (9, 0), (9, 0)]) lk_75_1 rfl rfl ?_
  exact rows1 (2 ^ tR T - 1) 0 _ _ M (by omega) lay0 (Fr.refl _ _) (fun a b c1 c2 => by omega)
