/-! ===== Areas.refresh ===== -/
theorem SeOK.fr {S : List Nat} {M N : pm_M} {T : Tab} {s : Nat} (h : SeOK M T s) (k : pm_ct N s = pm_ct M s) : SeOK N T s := by
  unfold SeOK; rw [k]; exact h
/-- what Areas holds: f is 1 where it is fresh -/
def CA (M : pm_M) (T : Tab) (s : Nat) (f : Nat) : Prop := own s ∧ pm_ct M 44 1 = ((s : Nat) : Int) ∧ pm_ct M 44 2 = (f : Int) ∧ f ≤ 1 ∧ ∃ n, n ≤ 4096 ∧ pm_ay M s 100 n ∧ (f = 1 → siz T ≤ n ∧ SeOK M T s)
set_option maxHeartbeats 8000000 in
theorem c_Areas_refresh {d mc ms : Nat} {M : pm_M} (lay0 : Lay M) {T : Tab} (hT : TabOK T) (hM0 : TbAt M 24 T) {s f : Nat} (hA : CA M T s f) (b1 : 1 ≤ mc) (b2 : 4096 ≤ ms) :
    pm_E (d + 2) 6 [(2, ((44 : Nat) : Int))] M mc ms (fun ρ M' => ρ = none ∧ Lay M' ∧ TbAt M' 24 T ∧ ∃ s', (s' = s ∨ s' = M.1) ∧ CA M' T s' 1 ∧ Gr [44, s] M M' ∧ (∀ k, k ≠ 1 → k ≠ 2 → pm_ct M' 44 k = pm_ct M 44 k)) := by
  obtain ⟨Q, hQ⟩ : ∃ Q : pm_Q, Q = (fun ρ M' => ρ = none ∧ Lay M' ∧ TbAt M' 24 T ∧ ∃ s', (s' = s ∨ s' = M.1) ∧ CA M' T s' 1 ∧ Gr [44, s] M M' ∧ (∀ k, k ≠ 1 → k ≠ 2 → pm_ct M' 44 k = pm_ct M 44 k)) := ⟨_, rfl⟩
  rw [← hQ]
  have ht : (24 : Nat) = 4 ∨ (24 : Nat) = 24 := Or.inr rfl
  have hR := hT.1
  have hC := hT.2.1
  have hR6 := tR_64 hT
  have hC6 := tC_64 hT
  have pR : 1 ≤ 2 ^ tR T := Nat.one_le_two_pow
  have pC : 1 ≤ 2 ^ tC T := Nat.one_le_two_pow
  have z4 := siz_le hT
  obtain ⟨hs, w1, w2, f1, n, n4, hay, hf⟩ := hA
  -- all sets of rows, one behind another
  have rows : ∀ (s' n' : Nat) (M1 : pm_M) (mc ms : Nat), own s' → Lay M1 → TbAt M1 24 T → pm_ct M1 44 1 = ((s' : Nat) : Int) → pm_ay M1 s' 100 n' → siz T ≤ n' →
      (∀ N : pm_M, Lay N → Fr [s'] M1 N → SeOK N T s' → Q none N) →
      ∀ (k i : Nat) (v2 v3 : pm_V) (N : pm_M), i + k = 2 ^ tR T - 1 → Lay N → Fr [s'] M1 N → (∀ rs cs, 1 ≤ rs → rs ≤ i → 1 ≤ cs → cs < 2 ^ tC T → pm_ct N s' (num T rs cs) = (sv T rs cs : Int)) → Wp (d + 2) 6 37 [(2, ((44 : Nat) : Int)), (0, ((i + 1 : Nat) : Int)), v2, v3] [] N mc ms Q := by
    intro s' n' M1 mc ms hs' layM1 hM1 e1 hay' hn' fin k
    have fre := own_fre hs'
    have s24 : 24 ∉ [s'] := own_nm hs' rfl
    have s25 : 25 ∉ [s'] := own_nm hs' rfl
    have s44 : 44 ∉ [s'] := own_nm hs' rfl
    induction k with
    | zero =>
      intro i v2 v3 N hi lay hF hin
      have hM : TbAt N 24 T := hM1.fr hF s24 s25
      refine g_iload_n lk_6_37 rfl ?_
      refine g_aload_n lk_6_38 rfl ?_
      refine g_getfield lk_6_39 rfl (lay.on (by decide) rfl) (v := ((24 : Nat) : Int)) (lay.rf rfl) ?_
      refine g_virtual (p := 24) (Qc := _) lk_6_42 rfl (Nat.le_of_ble_eq_true rfl) rfl rfl (lay.on (by decide) rfl) (Nat.le_of_ble_eq_true rfl) (Nat.le_of_ble_eq_true rfl) (Nat.zero_le _) (Nat.zero_le _) (c_Table_allRows lay ht hT hM) ?_
      rintro _ N1 ⟨rfl, hN1⟩
      rw [hN1]
      show Wp _ 6 45 [(2, ((44 : Nat) : Int)), (0, ((i + 1 : Nat) : Int)), v2, v3] [(0, ((2 ^ tR T - 1 : Nat) : Int)), (0, ((i + 1 : Nat) : Int))] N _ _ _
      refine g_icmp (t := 132) lk_6_45 rfl (by first | (unfold pm_inI; omega) | exact pm_and_in _ _ | exact pm_shr_in _ _ | exact pm_or_in _ _ | exact pm_xor_in _ _ | exact pm_shl_in _ _ | exact pm_cmp_in _ _ | exact pm_b8_in _ | (unfold pm_inI; split <;> omega)) (by first | (unfold pm_inI; omega) | exact pm_and_in _ _ | exact pm_shr_in _ _ | exact pm_or_in _ _ | exact pm_xor_in _ _ | exact pm_shl_in _ _ | exact pm_cmp_in _ _ | exact pm_b8_in _ | (unfold pm_inI; split <;> omega)) (fun h2 => ?_) (fun h2 => ?_)
      · replace h2 : ((2 ^ tR T - 1 : Nat) : Int) < ((i + 1 : Nat) : Int) := h2
        refine g_return lk_6_132 ?_
        exact fin N lay hF (fun rs cs a1 a2 a3 a4 => hin rs cs a1 (by omega) a3 a4)
      · replace h2 : ¬ (((2 ^ tR T - 1 : Nat) : Int) < ((i + 1 : Nat) : Int)) := h2
        omega
    | succ k ih =>
      intro i v2 v3 N hi lay hF hin
      have hM : TbAt N 24 T := hM1.fr hF s24 s25
      obtain ⟨rs, hrs⟩ : ∃ rs, rs = i + 1 := ⟨_, rfl⟩
      rw [← hrs]
      obtain ⟨q0, q5, q1, q2, q6, q3, q4, q7, q8⟩ := lw_tab ⟨rs, by omega⟩ (by show rs ≠ 0; omega)
      have lb := lw_bits ⟨rs, by omega⟩ (by show rs ≠ 0; omega)
      replace lb : ∀ j : Fin 6, rs.testBit (j : Nat) = ((lw rs).testBit (j : Nat) || (rs - lw rs).testBit (j : Nat)) ∧ ((lw rs).testBit (j : Nat) && (rs - lw rs).testBit (j : Nat)) = false := lb
      obtain ⟨fb, hfb⟩ : ∃ fb, fb = fstb rs := ⟨_, rfl⟩
      have elw : lw rs = 2 ^ fb := by rw [hfb]; rfl
      obtain ⟨lo, hlo⟩ : ∃ lo, lo = lw rs := ⟨_, rfl⟩
      obtain ⟨re, hre⟩ : ∃ re, re = rs - lw rs := ⟨_, rfl⟩
      replace q0 : pm_and (rs : Int) (-(rs : Int)) = (lo : Int) := by rw [hlo]; exact q0
      replace q5 : pm_xor (rs : Int) (lo : Int) = (re : Int) := by rw [hlo, hre]; exact q5
      replace q1 : 1 ≤ lo := by rw [hlo]; exact q1
      replace q2 : lo ≤ rs := by rw [hlo]; exact q2
      replace q6 : pop lo = 1 := by rw [hlo]; exact q6
      replace q3 : fb < 6 := by rw [hfb]; exact q3
      replace q4 : rs.testBit fb = true := by rw [hfb]; exact q4
      replace q8 : fstb lo = fb := by rw [hlo, hfb]; exact q8
      rw [← hre, ← hlo] at lb
      rw [← hlo] at hre
      have fR : fb < tR T := by
        refine Nat.lt_of_not_le (fun q => ?_)
        rw [Nat.testBit_lt_two_pow (Nat.lt_of_lt_of_le (by omega : rs < 2 ^ tR T) (Nat.pow_le_pow_right (by omega) q))] at q4
        cases q4
      have nx : ∀ (v2 v3 : pm_V) (N' : pm_M), Lay N' → Fr [s'] M1 N' → (∀ rs' cs, 1 ≤ rs' → rs' ≤ rs → 1 ≤ cs → cs < 2 ^ tC T → pm_ct N' s' (num T rs' cs) = (sv T rs' cs : Int)) → Wp (d + 2) 6 126 [(2, ((44 : Nat) : Int)), (0, (rs : Int)), v2, v3] [] N' mc ms Q := by
        intro v2 v3 N' lay' hF' hin'
        have := ih (i + 1) v2 v3 N' (by omega) lay' hF' (fun a b c1 c2 c3 c4 => hin' a b c1 (by omega) c3 c4)
        rw [← hrs] at this
        refine g_iinc (ls' := [(2, ((44 : Nat) : Int)), (0, ((rs : Int) + 1)), v2, v3]) lk_6_126 rfl rfl rfl ?_
        refine g_goto (t := 37) lk_6_129 rfl ?_
        exact this
      have inner : ∀ (k j : Nat) (N : pm_M), j + k = 2 ^ tC T - 1 → ¬ lo = rs → Lay N → Fr [s'] M1 N → (∀ rs' cs, 1 ≤ rs' → rs' ≤ i → 1 ≤ cs → cs < 2 ^ tC T → pm_ct N s' (num T rs' cs) = (sv T rs' cs : Int)) → (∀ cs, 1 ≤ cs → cs ≤ j → pm_ct N s' (num T rs cs) = (sv T rs cs : Int)) → Wp (d + 2) 6 71 [(2, ((44 : Nat) : Int)), (0, (rs : Int)), (0, (lo : Int)), (0, ((j + 1 : Nat) : Int))] [] N mc ms Q := by
        intro k
        induction k with
        | zero =>
          intro j N hj hne lay hF hin hro
          have hM : TbAt N 24 T := hM1.fr hF s24 s25
          refine g_iload_n lk_6_71 rfl ?_
          refine g_aload_n lk_6_72 rfl ?_
          refine g_getfield lk_6_73 rfl (lay.on (by decide) rfl) (v := ((24 : Nat) : Int)) (lay.rf rfl) ?_
          refine g_virtual (p := 24) (Qc := _) lk_6_76 rfl (Nat.le_of_ble_eq_true rfl) rfl rfl (lay.on (by decide) rfl) (Nat.le_of_ble_eq_true rfl) (Nat.le_of_ble_eq_true rfl) (Nat.zero_le _) (Nat.zero_le _) (c_Table_allColumns lay ht hT hM) ?_
          rintro _ N1 ⟨rfl, hN1⟩
          rw [hN1]
          show Wp _ 6 79 [(2, ((44 : Nat) : Int)), (0, (rs : Int)), (0, (lo : Int)), (0, ((j + 1 : Nat) : Int))] [(0, ((2 ^ tC T - 1 : Nat) : Int)), (0, ((j + 1 : Nat) : Int))] N _ _ _
          refine g_icmp (t := 126) lk_6_79 rfl (by first | (unfold pm_inI; omega) | exact pm_and_in _ _ | exact pm_shr_in _ _ | exact pm_or_in _ _ | exact pm_xor_in _ _ | exact pm_shl_in _ _ | exact pm_cmp_in _ _ | exact pm_b8_in _ | (unfold pm_inI; split <;> omega)) (by first | (unfold pm_inI; omega) | exact pm_and_in _ _ | exact pm_shr_in _ _ | exact pm_or_in _ _ | exact pm_xor_in _ _ | exact pm_shl_in _ _ | exact pm_cmp_in _ _ | exact pm_b8_in _ | (unfold pm_inI; split <;> omega)) (fun h2 => ?_) (fun h2 => ?_)
          · replace h2 : ((2 ^ tC T - 1 : Nat) : Int) < ((j + 1 : Nat) : Int) := h2
            refine nx _ _ N lay hF (fun a b c1 c2 c3 c4 => ?_)
            by_cases e : a = rs
            · rw [e]; exact hro b c3 (by omega)
            · exact hin a b c1 (by omega) c3 c4
          · replace h2 : ¬ (((2 ^ tC T - 1 : Nat) : Int) < ((j + 1 : Nat) : Int)) := h2
            omega
        | succ k ihk =>
          intro j N hj hne lay hF hin hro
          have hM : TbAt N 24 T := hM1.fr hF s24 s25
          obtain ⟨cs, hcs⟩ : ∃ cs, cs = j + 1 := ⟨_, rfl⟩
          rw [← hcs]
          have e44 : pm_ct N 44 1 = ((s' : Nat) : Int) := by rw [hF.ct s44]; exact e1
          have r1 := hin lo cs q1 (by omega) (by omega) (by omega)
          have r2 := hin re cs (by omega) (by omega) (by omega) (by omega)
          have esv : (vIn T lo cs ||| vIn T re cs) + 1024 * (nA T lo cs + nA T re cs) = sv T rs cs := by
            unfold sv
            rw [vIn_rows (a := lo) (b := re) (fun j hj => (lb ⟨j, by omega⟩).1), nA_rows (a := lo) (b := re) (fun j hj => (lb ⟨j, by omega⟩).1) (fun j hj => (lb ⟨j, by omega⟩).2)]
          have jj := fun N => c_Areas_joined (d := d + 1) (mc := 0) (ms := 0) (M := N) (vIn_lt T lo cs) (vIn_lt T re cs) (nA_36 hT lo cs) (nA_36 hT re cs)
          rw [esv] at jj
          have jj : ∀ N : pm_M, pm_E (d + 1) 8 [(0, ((sv T lo cs : Nat) : Int)), (0, ((sv T re cs : Nat) : Int))] N 0 0 (fun ρ M' => ρ = some (0, ((sv T rs cs : Nat) : Int)) ∧ M' = N) := jj
          have nl := num_lt (T := T) (show rs < 2 ^ tR T by omega) (show cs < 2 ^ tC T by omega)
          have nl2 := num_lt (T := T) (show lo < 2 ^ tR T by omega) (show cs < 2 ^ tC T by omega)
          have nl3 := num_lt (T := T) (show re < 2 ^ tR T by omega) (show cs < 2 ^ tC T by omega)
          refine g_iload_n lk_6_71 rfl ?_
          refine g_aload_n lk_6_72 rfl ?_
          refine g_getfield lk_6_73 rfl (lay.on (by decide) rfl) (v := ((24 : Nat) : Int)) (lay.rf rfl) ?_
          refine g_virtual (p := 24) (Qc := _) lk_6_76 rfl (Nat.le_of_ble_eq_true rfl) rfl rfl (lay.on (by decide) rfl) (Nat.le_of_ble_eq_true rfl) (Nat.le_of_ble_eq_true rfl) (Nat.zero_le _) (Nat.zero_le _) (c_Table_allColumns lay ht hT hM) ?_
          rintro _ N1 ⟨rfl, hN1⟩
          rw [hN1]
          show Wp _ 6 79 [(2, ((44 : Nat) : Int)), (0, (rs : Int)), (0, (lo : Int)), (0, (cs : Int))] [(0, ((2 ^ tC T - 1 : Nat) : Int)), (0, (cs : Int))] N _ _ _
          refine g_icmp (t := 126) lk_6_79 rfl (by first | (unfold pm_inI; omega) | exact pm_and_in _ _ | exact pm_shr_in _ _ | exact pm_or_in _ _ | exact pm_xor_in _ _ | exact pm_shl_in _ _ | exact pm_cmp_in _ _ | exact pm_b8_in _ | (unfold pm_inI; split <;> omega)) (by first | (unfold pm_inI; omega) | exact pm_and_in _ _ | exact pm_shr_in _ _ | exact pm_or_in _ _ | exact pm_xor_in _ _ | exact pm_shl_in _ _ | exact pm_cmp_in _ _ | exact pm_b8_in _ | (unfold pm_inI; split <;> omega)) (fun h2 => ?_) (fun h2 => ?_)
          · replace h2 : ((2 ^ tC T - 1 : Nat) : Int) < (cs : Int) := h2
            omega
          · replace h2 : ¬ (((2 ^ tC T - 1 : Nat) : Int) < (cs : Int)) := h2
            refine g_aload_n lk_6_82 rfl ?_
            refine m_getfield (u := []) (M := N) lk_6_83 rfl (lay.on (by decide) rfl) (v := ((s' : Nat) : Int)) e44 ?_
            refine g_aload_n lk_6_86 rfl ?_
            refine g_iload_n lk_6_87 rfl ?_
            refine g_iload_n lk_6_88 rfl ?_
            refine g_virtual (p := 44) (Qc := _) lk_6_89 rfl (Nat.le_of_ble_eq_true rfl) rfl rfl (lay.on (by decide) rfl) (Nat.le_of_ble_eq_true rfl) (Nat.le_of_ble_eq_true rfl) (Nat.zero_le _) (Nat.zero_le _) (c_Areas_numberOf lay hT hM (by omega) (by omega)) ?_
            rintro _ N3 ⟨rfl, hN3⟩
            rw [hN3]
            show Wp _ 6 92 [(2, ((44 : Nat) : Int)), (0, (rs : Int)), (0, (lo : Int)), (0, (cs : Int))] [(0, (num T rs cs : Int)), (2, ((s' : Nat) : Int))] N _ _ _
            refine g_aload_n lk_6_92 rfl ?_
            refine m_getfield (u := []) (M := N) lk_6_93 rfl (lay.on (by decide) rfl) (v := ((s' : Nat) : Int)) e44 ?_
            refine g_aload_n lk_6_96 rfl ?_
            refine g_iload_n lk_6_97 rfl ?_
            refine g_iload_n lk_6_98 rfl ?_
            refine g_virtual (p := 44) (Qc := _) lk_6_99 rfl (Nat.le_of_ble_eq_true rfl) rfl rfl (lay.on (by decide) rfl) (Nat.le_of_ble_eq_true rfl) (Nat.le_of_ble_eq_true rfl) (Nat.zero_le _) (Nat.zero_le _) (c_Areas_numberOf lay hT hM (by omega) (by omega)) ?_
            rintro _ N4 ⟨rfl, hN4⟩
            rw [hN4]
            show Wp _ 6 102 [(2, ((44 : Nat) : Int)), (0, (rs : Int)), (0, (lo : Int)), (0, (cs : Int))] [(0, (num T lo cs : Int)), (2, ((s' : Nat) : Int)), (0, (num T rs cs : Int)), (2, ((s' : Nat) : Int))] N _ _ _
            refine g_iaload lk_6_102 (hF.ay hay') (by omega) (v := ((sv T lo cs : Nat) : Int)) r1 ?_
            refine g_aload_n lk_6_103 rfl ?_
            refine m_getfield (u := []) (M := N) lk_6_104 rfl (lay.on (by decide) rfl) (v := ((s' : Nat) : Int)) e44 ?_
            refine g_aload_n lk_6_107 rfl ?_
            refine g_iload_n lk_6_108 rfl ?_
            refine g_iload_n lk_6_109 rfl ?_
            refine g_ixor lk_6_110 ?_
            refine g_top (z := (pm_xor (rs : Int) (lo : Int))) (z' := (re : Int)) (q5) ?_
            refine g_iload_n lk_6_111 rfl ?_
            refine g_virtual (p := 44) (Qc := _) lk_6_112 rfl (Nat.le_of_ble_eq_true rfl) rfl rfl (lay.on (by decide) rfl) (Nat.le_of_ble_eq_true rfl) (Nat.le_of_ble_eq_true rfl) (Nat.zero_le _) (Nat.zero_le _) (c_Areas_numberOf lay hT hM (by omega) (by omega)) ?_
            rintro _ N5 ⟨rfl, hN5⟩
            rw [hN5]
            show Wp _ 6 115 [(2, ((44 : Nat) : Int)), (0, (rs : Int)), (0, (lo : Int)), (0, (cs : Int))] [(0, (num T re cs : Int)), (2, ((s' : Nat) : Int)), (0, ((sv T lo cs : Nat) : Int)), (0, (num T rs cs : Int)), (2, ((s' : Nat) : Int))] N _ _ _
            refine g_iaload lk_6_115 (hF.ay hay') (by omega) (v := ((sv T re cs : Nat) : Int)) r2 ?_
            refine g_static (Qc := _) lk_6_116 (by decide) rfl (Nat.le_of_ble_eq_true rfl) rfl rfl (Nat.le_of_ble_eq_true rfl) (Nat.le_of_ble_eq_true rfl) (Nat.zero_le _) (Nat.zero_le _) (jj _) ?_
            rintro _ N6 ⟨rfl, hN6⟩
            rw [hN6]
            show Wp _ 6 119 [(2, ((44 : Nat) : Int)), (0, (rs : Int)), (0, (lo : Int)), (0, (cs : Int))] [(0, ((sv T rs cs : Nat) : Int)), (0, (num T rs cs : Int)), (2, ((s' : Nat) : Int))] N _ _ _
            refine s_iastore (M := N) lk_6_119 (hF.ay hay') (by omega) (j := (num T rs cs)) (by omega) (fun N7 hN7 => ?_)
            have lay7 : Lay N7 := (by rw [hN7]; exact lay.upA fre)
            refine g_iinc (ls' := [(2, ((44 : Nat) : Int)), (0, (rs : Int)), (0, (lo : Int)), (0, ((cs : Int) + 1))]) lk_6_120 rfl rfl rfl ?_
            refine g_goto (t := 71) lk_6_123 rfl ?_
            have := ihk (j + 1) N7 (by omega) hne lay7 (hF.trans (Fr.up (List.mem_singleton.mpr rfl) hN7)) (fun a b c1 c2 c3 c4 => ?_) (fun b c1 c2 => ?_)
            · rw [← hcs] at this; exact this
            · rw [up_ct hN7, pm_upd_ne (fun q => by have := (num_inj (T := T) c4 (by omega) q).1; omega)]; exact hin a b c1 c2 c3 c4
            · rw [up_ct hN7]
              by_cases e : b = cs
              · rw [e, pm_upd_eq]
              · rw [pm_upd_ne (fun q => e (num_inj (T := T) (by omega) (by omega) q).2)]; exact hro b c1 (by omega)
      have rrow := fun (lay : Lay N) => c_Areas_refreshRow (d := d) (mc := 0) (ms := 0) lay hT hM hs' (by rw [hF.ct s44]; exact e1) (hF.ay hay') hn' fR
      refine g_iload_n lk_6_37 rfl ?_
      refine g_aload_n lk_6_38 rfl ?_
      refine g_getfield lk_6_39 rfl (lay.on (by decide) rfl) (v := ((24 : Nat) : Int)) (lay.rf rfl) ?_
      refine g_virtual (p := 24) (Qc := _) lk_6_42 rfl (Nat.le_of_ble_eq_true rfl) rfl rfl (lay.on (by decide) rfl) (Nat.le_of_ble_eq_true rfl) (Nat.le_of_ble_eq_true rfl) (Nat.zero_le _) (Nat.zero_le _) (c_Table_allRows lay ht hT hM) ?_
      rintro _ N1 ⟨rfl, hN1⟩
      rw [hN1]
      show Wp _ 6 45 [(2, ((44 : Nat) : Int)), (0, (rs : Int)), v2, v3] [(0, ((2 ^ tR T - 1 : Nat) : Int)), (0, (rs : Int))] N _ _ _
      refine g_icmp (t := 132) lk_6_45 rfl (by first | (unfold pm_inI; omega) | exact pm_and_in _ _ | exact pm_shr_in _ _ | exact pm_or_in _ _ | exact pm_xor_in _ _ | exact pm_shl_in _ _ | exact pm_cmp_in _ _ | exact pm_b8_in _ | (unfold pm_inI; split <;> omega)) (by first | (unfold pm_inI; omega) | exact pm_and_in _ _ | exact pm_shr_in _ _ | exact pm_or_in _ _ | exact pm_xor_in _ _ | exact pm_shl_in _ _ | exact pm_cmp_in _ _ | exact pm_b8_in _ | (unfold pm_inI; split <;> omega)) (fun h2 => ?_) (fun h2 => ?_)
      · replace h2 : ((2 ^ tR T - 1 : Nat) : Int) < (rs : Int) := h2
        refine g_return lk_6_132 ?_
        omega
      · replace h2 : ¬ (((2 ^ tR T - 1 : Nat) : Int) < (rs : Int)) := h2
        refine g_iload_n lk_6_48 rfl ?_
        refine g_iload_n lk_6_49 rfl ?_
        refine g_ineg lk_6_50 ?_
        refine g_iand lk_6_51 ?_
        refine g_top (z := (pm_and (rs : Int) (-(rs : Int)))) (z' := (lo : Int)) (q0) ?_
        refine g_istore_n (ls' := [(2, ((44 : Nat) : Int)), (0, (rs : Int)), (0, (lo : Int)), v3]) lk_6_52 rfl rfl ?_
        refine g_iload_n lk_6_53 rfl ?_
        refine g_iload_n lk_6_54 rfl ?_
        refine g_icmp (t := 69) lk_6_55 rfl (by first | (unfold pm_inI; omega) | exact pm_and_in _ _ | exact pm_shr_in _ _ | exact pm_or_in _ _ | exact pm_xor_in _ _ | exact pm_shl_in _ _ | exact pm_cmp_in _ _ | exact pm_b8_in _ | (unfold pm_inI; split <;> omega)) (by first | (unfold pm_inI; omega) | exact pm_and_in _ _ | exact pm_shr_in _ _ | exact pm_or_in _ _ | exact pm_xor_in _ _ | exact pm_shl_in _ _ | exact pm_cmp_in _ _ | exact pm_b8_in _ | (unfold pm_inI; split <;> omega)) (fun h3 => ?_) (fun h3 => ?_)
        · replace h3 : ¬ (lo : Int) = (rs : Int) := h3
          refine g_iconst lk_6_69 ?_
          refine g_istore_n (ls' := [(2, ((44 : Nat) : Int)), (0, (rs : Int)), (0, (lo : Int)), (0, 1)]) lk_6_70 rfl rfl ?_
          exact inner (2 ^ tC T - 1) 0 N (by omega) (by omega) lay hF (fun a b c1 c2 c3 c4 => hin a b c1 c2 c3 c4) (fun b c1 c2 => by omega)
        · replace h3 : ¬ (¬ (lo : Int) = (rs : Int)) := h3
          refine g_aload_n lk_6_58 rfl ?_
          refine g_iload_n lk_6_59 rfl ?_
          refine g_static (Qc := _) lk_6_60 (by decide) rfl (Nat.le_of_ble_eq_true rfl) rfl rfl (Nat.le_of_ble_eq_true rfl) (Nat.le_of_ble_eq_true rfl) (Nat.zero_le _) (Nat.zero_le _) ((by have := c_X_placeOf (d := d) (mc := 0) (ms := 0) (M := N) (v := lo) (by omega) q6; rw [q8] at this; exact this)) ?_
          rintro _ N4 ⟨rfl, hN4⟩
          rw [hN4]
          show Wp _ 6 63 [(2, ((44 : Nat) : Int)), (0, (rs : Int)), (0, (lo : Int)), v3] [(0, (fb : Int)), (2, ((44 : Nat) : Int))] N _ _ _
          refine g_virtual (p := 44) (Qc := _) lk_6_63 rfl (Nat.le_of_ble_eq_true rfl) rfl rfl (lay.on (by decide) rfl) (Nat.le_of_ble_eq_true rfl) (Nat.le_of_ble_eq_true rfl) (Nat.zero_le _) (Nat.zero_le _) (rrow lay) ?_
          rintro _ N2 ⟨rfl, lay2, hF2, r1, r2⟩
          refine g_goto (t := 126) lk_6_66 rfl ?_
          have elo : lo = 2 ^ fb := by rw [hlo]; exact elw
          have ers : rs = 2 ^ fb := by omega
          refine nx _ _ N2 lay2 (hF.trans hF2) (fun a b c1 c2 c3 c4 => ?_)
          by_cases e : a = rs
          · rw [e, ers]; exact r2 b c4
          · rw [r1 _ ?_]
            · exact hin a b c1 (by omega) c3 c4
            · unfold num
              have : (a + 1) * 2 ^ tC T ≤ 2 ^ fb * 2 ^ tC T := Nat.mul_le_mul_right _ (by omega)
              rw [Nat.add_mul, Nat.one_mul] at this
              omega
  obtain ⟨M1, hM1⟩ : ∃ M1, M1 = Mu [(44, pm_upd (pm_ct M 44) 2 1)] M := ⟨_, rfl⟩
  have F1 : Fr [44] M M1 := by rw [hM1]; exact Fr.mu _ _ rfl
  have c441 : pm_ct M1 44 = pm_upd (pm_ct M 44) 2 1 := by rw [hM1, Mu_ct]; rfl
  have k35 : ∀ (s' n' : Nat) (N : pm_M) (mc ms : Nat), own s' → Lay N → TbAt N 24 T → pm_ct N 44 1 = ((s' : Nat) : Int) → pm_ct N 44 2 = 1 → (∀ k, k ≠ 1 → k ≠ 2 → pm_ct N 44 k = pm_ct M 44 k) → pm_ay N s' 100 n' → n' ≤ 4096 → siz T ≤ n' → (s' = s ∨ s' = M.1) → Gr [44, s] M N → Wp (d + 2) 6 35 [(2, ((44 : Nat) : Int)), (9, 0), (9, 0), (9, 0)] [] N mc ms Q := by
    intro s' n' N mc ms hs' lay hM e1 e2 e3 hay' n4' hn' hss hG
    have s24 : 24 ∉ [s'] := own_nm hs' rfl
    have s25 : 25 ∉ [s'] := own_nm hs' rfl
    have s44 : 44 ∉ [s'] := own_nm hs' rfl
    refine g_iconst lk_6_35 ?_
    refine g_istore_n (ls' := [(2, ((44 : Nat) : Int)), (0, 1), (9, 0), (9, 0)]) lk_6_36 rfl rfl ?_
    refine rows s' n' N mc ms hs' lay hM e1 hay' hn' (fun N' l2 f2 o2 => ?_) (2 ^ tR T - 1) 0 _ _ N (by omega) lay (Fr.refl _ _) (fun a b c1 c2 => by omega)
    rw [hQ]
    refine ⟨rfl, l2, hM.fr f2 s24 s25, s', hss, ⟨hs', by rw [f2.ct s44]; exact e1, by rw [f2.ct s44, e2]; rfl, Nat.le_refl _, n', n4', f2.ay hay', fun _ => ⟨hn', o2⟩⟩, ?_, fun k k1 k2 => by rw [f2.ct s44]; exact e3 k k1 k2⟩
    have g2 : Gr [s', 44, s] M N' := (hG.mono (fun a q => Or.inl (List.mem_cons_of_mem s' q))).trans (f2.gr.mono (fun a q => Or.inl (by rw [List.mem_singleton] at q; rw [q]; exact List.mem_cons_self ..)))
    refine g2.mono (fun a q => ?_)
    rcases List.mem_cons.mp q with e | e
    · rcases hss with c | c
      · left; rw [e, c]; simp
      · right; omega
    · exact Or.inl e
  show Wp (d + 2) 6 0 [(2, ((44 : Nat) : Int)), (9, 0), (9, 0), (9, 0)] [] M mc ms Q
  have hM := hM0
  refine g_aload_n lk_6_0 rfl ?_
  refine m_getfield (u := []) (M := M) lk_6_1 rfl (lay0.on (by decide) rfl) (v := (f : Int)) w2 ?_
  refine g_if (t := 8) lk_6_4 rfl (by first | (unfold pm_inI; omega) | exact pm_and_in _ _ | exact pm_shr_in _ _ | exact pm_or_in _ _ | exact pm_xor_in _ _ | exact pm_shl_in _ _ | exact pm_cmp_in _ _ | exact pm_b8_in _ | (unfold pm_inI; split <;> omega)) (fun h1 => ?_) (fun h1 => ?_)
  · replace h1 : (f : Int) = 0 := h1
    refine g_aload_n lk_6_8 rfl ?_
    refine g_iconst lk_6_9 ?_
    have lay2 : Lay (Mu [(44, pm_upd (pm_ct M 44) 2 1)] M) := lay0.muF (l := []) (a := 44) (k := 2) (z := 1) rfl rfl
    refine m_putfield (u := []) (u' := [(44, pm_upd (pm_ct M 44) 2 1)]) (M := M) lk_6_10 rfl (lay0.on (by decide) rfl) (fun _ => by omega) rfl ?_
    refine g_aload_n lk_6_13 rfl ?_
    refine m_getfield (u := [(44, pm_upd (pm_ct M 44) 2 1)]) (M := M) lk_6_14 rfl (lay2.on (by decide) rfl) (v := ((s : Nat) : Int)) w1 ?_
    refine g_arraylength (n := n) lk_6_17 (by decide) (ayM hay) ?_
    refine g_aload_n lk_6_18 rfl ?_
    refine g_virtual (p := 44) (Qc := _) lk_6_19 rfl (Nat.le_of_ble_eq_true rfl) rfl rfl (lay2.on (by decide) rfl) (Nat.le_of_ble_eq_true rfl) (Nat.le_of_ble_eq_true rfl) (Nat.zero_le _) (Nat.zero_le _) (c_Areas_size lay2 hT hM) ?_
    rintro _ N3 ⟨rfl, hN3⟩
    rw [hN3]
    show Wp _ 6 22 [(2, ((44 : Nat) : Int)), (9, 0), (9, 0), (9, 0)] [(0, (siz T : Int)), (0, ((n : Nat) : Int))] (Mu [(44, pm_upd (pm_ct M 44) 2 1)] M) _ _ _
    refine g_icmp (t := 35) lk_6_22 rfl (by first | (unfold pm_inI; omega) | exact pm_and_in _ _ | exact pm_shr_in _ _ | exact pm_or_in _ _ | exact pm_xor_in _ _ | exact pm_shl_in _ _ | exact pm_cmp_in _ _ | exact pm_b8_in _ | (unfold pm_inI; split <;> omega)) (by first | (unfold pm_inI; omega) | exact pm_and_in _ _ | exact pm_shr_in _ _ | exact pm_or_in _ _ | exact pm_xor_in _ _ | exact pm_shl_in _ _ | exact pm_cmp_in _ _ | exact pm_b8_in _ | (unfold pm_inI; split <;> omega)) (fun h4 => ?_) (fun h4 => ?_)
    · replace h4 : (siz T : Int) ≤ ((n : Nat) : Int) := h4
      refine k35 s n _ _ _ hs lay2 hM0 w1 ?_ ?_ (ayM hay) n4 (by omega) (Or.inl rfl) (Fr.gr (Fr.mu _ _ rfl))
      · rw [Mu_ct]; rfl
      · intro k k1 k2
        rw [Mu_ct]
        exact upd_ne k2
    · replace h4 : ¬ ((siz T : Int) ≤ ((n : Nat) : Int)) := h4
      refine g_aload_n lk_6_25 rfl ?_
      refine g_aload_n lk_6_26 rfl ?_
      refine g_virtual (p := 44) (Qc := _) lk_6_27 rfl (Nat.le_of_ble_eq_true rfl) rfl rfl (lay2.on (by decide) rfl) (Nat.le_of_ble_eq_true rfl) (Nat.le_of_ble_eq_true rfl) (Nat.zero_le _) (Nat.zero_le _) (c_Areas_size lay2 hT hM) ?_
      rintro _ N5 ⟨rfl, hN5⟩
      rw [hN5]
      show Wp _ 6 30 [(2, ((44 : Nat) : Int)), (9, 0), (9, 0), (9, 0)] [(0, (siz T : Int)), (2, ((44 : Nat) : Int))] (Mu [(44, pm_upd (pm_ct M 44) 2 1)] M) _ _ _
      have lay9 : Lay (Mu [(44, pm_upd (pm_ct M 44) 2 1)] M) := lay2
      rw [← hM1] at lay9 ⊢
      refine g_newarray (n := siz T) lk_6_30 (by omega) b1 (by omega) ?_
      have ln := lay9.new (100, siz T, fun _ => 0)
      refine g_putfield lk_6_32 rfl (ln.on (by decide) rfl) (fun h => absurd h (by decide)) ?_
      have M157 := lay0.1
      have m1 : M1.1 = M.1 := F1.1
      have ct44 : pm_ct (pm_new M1 (100, siz T, fun _ => 0)) 44 = pm_ct M1 44 := Gr.new.ct (by omega) (by simp)
      refine k35 M1.1 (siz T) _ _ _ (by unfold own; omega) (ln.upF rfl) ?_ ?_ ?_ ?_ ?_ (by omega) (Nat.le_refl _) (Or.inr m1) ?_
      · have t1 : TbAt M1 24 T := hM0.fr F1 (by decide) (by decide)
        have t2 : TbAt (pm_new M1 (100, siz T, fun _ => 0)) 24 T := t1.gr Gr.new (by omega) (by simp) (by simp)
        exact t2.fr (Fr.up (S := [44]) (by simp) rfl) (by decide) (by decide)
      · rw [pm_ct_eq, pm_upd_eq]
      · rw [pm_ct_eq, pm_upd_ne (by decide), ct44, c441, pm_upd_eq]
      · intro k k1 k2
        rw [pm_ct_eq, pm_upd_ne k1, ct44, c441, pm_upd_ne k2]
      · exact pm_ay_up.mpr (new_ay (by omega))
      · have g1 : Gr [44, s] M M1 := F1.gr.mono (fun a q => Or.inl (by simp at q; simp [q]))
        have g2 : Gr [44, s] M1 (pm_new M1 (100, siz T, fun _ => 0)) := Gr.new.mono (fun a q => by cases q)
        exact (g1.trans g2).trans (Fr.gr (Fr.up (a := 44) (S := [44, s]) (by simp) rfl))
  · replace h1 : ¬ ((f : Int) = 0) := h1
    refine g_return lk_6_7 ?_
    rw [hQ]
    have f9 : f = 1 := by omega
    exact ⟨rfl, lay0, hM0, s, Or.inl rfl, ⟨hs, w1, w2.trans (by rw [f9]), Nat.le_refl _, n, n4, hay, fun _ => hf f9⟩, Gr.refl _ _, fun _ _ _ => rfl⟩
theorem c_Areas_isOneValue {d mc ms : Nat} {M : pm_M} (lay : Lay M) {T : Tab} (hT : TabOK T) {s : Nat} (hA : CA M T s 1) {rs cs : Nat} (r1 : 1 ≤ rs) (r2 : rs < 2 ^ tR T) (c1 : 1 ≤ cs) (c2 : cs < 2 ^ tC T) :
    pm_E (d + 1) 4 [(2, ((44 : Nat) : Int)), (0, (num T rs cs : Int))] M mc ms (fun ρ M' => ρ = some (0, if pop (vIn T rs cs) < 2 then 1 else 0) ∧ M' = M) := by
  obtain ⟨hs, w1, w2, _, n, n4, hay, hf⟩ := hA
  obtain ⟨f1, f2⟩ := hf rfl
  have nl := num_lt (T := T) r2 c2
  have rd := f2 rs cs r1 r2 c1 c2
  have vl := vIn_lt T rs cs
  have e : pm_and ((sv T rs cs : Nat) : Int) 1023 = ((vIn T rs cs : Nat) : Int) := by
    rw [pm_andlo (by have := sv_lt hT rs cs; omega)]
    congr 1
    unfold sv; omega
  show Wp (d + 1) 4 0 [(2, ((44 : Nat) : Int)), (0, (num T rs cs : Int))] [] M mc ms _
  refine g_aload_n lk_4_0 rfl ?_
  refine m_getfield (u := []) (M := M) lk_4_1 rfl (lay.on (by decide) rfl) (v := ((s : Nat) : Int)) w1 ?_
  refine g_iload_n lk_4_4 rfl ?_
  refine g_iaload lk_4_5 hay (by omega) (v := ((sv T rs cs : Nat) : Int)) rd ?_
  refine g_sipush lk_4_6 ?_
  refine g_iand lk_4_9 ?_
  refine g_top (z := (pm_and ((sv T rs cs : Nat) : Int) 1023)) (z' := ((vIn T rs cs : Nat) : Int)) (e) ?_
  refine g_static (Qc := _) lk_4_10 (by decide) rfl (Nat.le_of_ble_eq_true rfl) rfl rfl (Nat.le_of_ble_eq_true rfl) (Nat.le_of_ble_eq_true rfl) (Nat.zero_le _) (Nat.zero_le _) (c_X_isAlike vl) ?_
  rintro _ N1 ⟨rfl, hN1⟩
  rw [hN1]
  show Wp _ 4 13 [(2, ((44 : Nat) : Int)), (0, (num T rs cs : Int))] [(0, (if pop (vIn T rs cs) < 2 then (1 : Int) else 0))] M _ _ _
  refine g_ireturn lk_4_13 (fun _ => by omega) ?_
  exact ⟨rfl, rfl⟩
theorem c_Areas_valuesOf {d mc ms : Nat} {M : pm_M} (lay : Lay M) {T : Tab} (hT : TabOK T) {s : Nat} (hA : CA M T s 1) {rs cs : Nat} (r1 : 1 ≤ rs) (r2 : rs < 2 ^ tR T) (c1 : 1 ≤ cs) (c2 : cs < 2 ^ tC T) :
    pm_E d 3 [(2, ((44 : Nat) : Int)), (0, (num T rs cs : Int))] M mc ms (fun ρ M' => ρ = some (0, (vIn T rs cs : Int)) ∧ M' = M) := by
  obtain ⟨hs, w1, w2, _, n, n4, hay, hf⟩ := hA
  obtain ⟨f1, f2⟩ := hf rfl
  have nl := num_lt (T := T) r2 c2
  have rd := f2 rs cs r1 r2 c1 c2
  have e : pm_and ((sv T rs cs : Nat) : Int) 1023 = ((vIn T rs cs : Nat) : Int) := by
    have vl := vIn_lt T rs cs
    rw [pm_andlo (by have := sv_lt hT rs cs; omega)]
    congr 1
    unfold sv; omega
  show Wp d 3 0 [(2, ((44 : Nat) : Int)), (0, (num T rs cs : Int))] [] M mc ms _
  refine g_aload_n lk_3_0 rfl ?_
  refine m_getfield (u := []) (M := M) lk_3_1 rfl (lay.on (by decide) rfl) (v := ((s : Nat) : Int)) w1 ?_
  refine g_iload_n lk_3_4 rfl ?_
  refine g_iaload lk_3_5 hay (by omega) (v := ((sv T rs cs : Nat) : Int)) rd ?_
  refine g_sipush lk_3_6 ?_
  refine g_iand lk_3_9 ?_
  refine g_top (z := (pm_and ((sv T rs cs : Nat) : Int) 1023)) (z' := ((vIn T rs cs : Nat) : Int)) (e) ?_
  refine g_ireturn lk_3_10 (fun h => absurd h (by decide)) ?_
  exact ⟨rfl, rfl⟩
theorem c_Areas_filledOf {d mc ms : Nat} {M : pm_M} (lay : Lay M) {T : Tab} (hT : TabOK T) {s : Nat} (hA : CA M T s 1) {rs cs : Nat} (r1 : 1 ≤ rs) (r2 : rs < 2 ^ tR T) (c1 : 1 ≤ cs) (c2 : cs < 2 ^ tC T) :
    pm_E d 5 [(2, ((44 : Nat) : Int)), (0, (num T rs cs : Int))] M mc ms (fun ρ M' => ρ = some (0, (nA T rs cs : Int)) ∧ M' = M) := by
  obtain ⟨hs, w1, w2, _, n, n4, hay, hf⟩ := hA
  obtain ⟨f1, f2⟩ := hf rfl
  have nl := num_lt (T := T) r2 c2
  have rd := f2 rs cs r1 r2 c1 c2
  have e : pm_shr ((sv T rs cs : Nat) : Int) 10 = (nA T rs cs : Int) := by
    have vl := vIn_lt T rs cs
    have h := pm_shr_n (a := ((sv T rs cs : Nat) : Int)) (k := 10) (pm_inN (by have := sv_lt hT rs cs; omega)) (by omega)
    rw [show ((10 : Nat) : Int) = 10 from rfl] at h
    rw [h, show ((sv T rs cs : Nat) : Int) >>> 10 = ((sv T rs cs >>> 10 : Nat) : Int) from rfl, Nat.shiftRight_eq_div_pow]
    congr 1
    unfold sv
    omega
  show Wp d 5 0 [(2, ((44 : Nat) : Int)), (0, (num T rs cs : Int))] [] M mc ms _
  refine g_aload_n lk_5_0 rfl ?_
  refine m_getfield (u := []) (M := M) lk_5_1 rfl (lay.on (by decide) rfl) (v := ((s : Nat) : Int)) w1 ?_
  refine g_iload_n lk_5_4 rfl ?_
  refine g_iaload lk_5_5 hay (by omega) (v := ((sv T rs cs : Nat) : Int)) rd ?_
  refine g_bipush lk_5_6 ?_
  refine g_ishr lk_5_8 ?_
  refine g_top (z := (pm_shr ((sv T rs cs : Nat) : Int) 10)) (z' := (nA T rs cs : Int)) (e) ?_
  refine g_ireturn lk_5_9 (fun h => absurd h (by decide)) ?_
  exact ⟨rfl, rfl⟩
