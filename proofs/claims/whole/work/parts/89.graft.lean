/-! ===== a graft: the class ===== -/
set_option maxHeartbeats 8000000 in
theorem c_Told_graftedCost0 {d mc ms : Nat} {M : pm_M} (lay0 : Lay M) {T : Tab} (hT : TabOK T) (hM0 : TbAt M 24 T) {s fa w f : Nat} (hA0 : CA M T s fa) (hB0 : CB M T 0 98 w f) (hff : f = 1 → fa = 1) (hsw : s ≠ w) (b1 : 2 ≤ mc) (b2 : 8192 ≤ ms) {L : List Nd} {p dp : Nat → Nat} (hX : TdAt M 54 T L p dp) {g : Nat} (hg : g ≤ 9) :
    pm_E (d + 5) 113 [(2, ((54 : Nat) : Int)), (0, (g : Int)), (2, ((98 : Nat) : Int))] M mc ms (fun ρ M' => ρ = some (0, (x2 T (gCel T L p g) : Int)) ∧ Wk M M' T s fa w f) := by
  obtain ⟨Q, hQ⟩ : ∃ Q : pm_Q, Q = (fun ρ M' => ρ = some (0, (x2 T (gCel T L p g) : Int)) ∧ Wk M M' T s fa w f) := ⟨_, rfl⟩
  rw [← hQ]
  obtain ⟨hD, hp, hx⟩ := hX.1
  have l31 := hD.2.1
  have os := hA0.1
  have ow := hB0.1
  have m0 := lay0.1
  have fin := x2_graft hT hD hp g
  obtain ⟨fn, hfn⟩ : ∃ q : Nat → Nat, q = gNod T L p g := ⟨_, rfl⟩
  rw [← hfn] at fin
  obtain ⟨l, hl⟩ : ∃ l, l = L.length := ⟨_, rfl⟩
  rw [← hl] at l31 fin
  have fb : ∀ i, i < l → fn i ≤ 11800 := fun i hi => by
    obtain ⟨c1, c2, c3, c4, _, _⟩ := CM_bd hT hD hp _ _ (Nat.lt_succ_self _) (show i < L.length by omega)
    have := (hx i (by omega)).1
    rw [hfn]
    unfold gNod
    by_cases q : idl (CM T L p i)
    · rw [if_pos q]; omega
    rw [if_neg q]
    have := BW_small hT 0 (rs := (CM T L p i).1) (cs := (CM T L p i).2.1) (by omega) c1 (by omega) c2
    split
    · omega
    · split <;> omega
  have loop : ∀ (n i : Nat) (N : pm_M) (cb sb' s' fa' w' f' : Nat), i + n = l → Lay N → TbAt N 24 T → CA N T s' fa' → CB N T 0 98 w' f' → (f' = 1 → fa' = 1) → (f = 1 → f' = 1) → (fa = 1 → fa' = 1) → (s' = s ∨ M.1 ≤ s') → (w' = w ∨ M.1 ≤ w') → s' ≠ w' → Gr [44, s, 98, w] M N → pm_ct N 98 6 = pm_ct M 98 6 → (f' = 1 ∨ 2 ≤ cb ∧ 8192 ≤ sb') → Wp (d + 5) 113 5 [(2, ((54 : Nat) : Int)), (0, (g : Int)), (2, ((98 : Nat) : Int)), (0, ((xm fn i : Nat) : Int)), (0, (i : Int))] [] N cb sb' Q := by
    intro n
    induction n with
    | zero =>
      intro i N cb sb' s' fa' w' f' hi lay hM hA hB k1 k2 k3 k4 k5 k6 k7 k8 k9
      have e : i = l := by omega
      have hct := (hX.gr k7 m0 (by omega) (by omega) (fun a x y => td_out os ow x y)).2.1
      rw [← hl, ← e] at hct
      rw [← e] at fin
      clear k9
      refine g_iload lk_113_5 rfl ?_
      refine g_aload_n lk_113_7 rfl ?_
      refine g_getfield lk_113_8 rfl (lay.on (by decide) rfl) (v := ((55 : Nat) : Int)) (lay.rf rfl) ?_
      refine m_getfield (u := []) (M := N) lk_113_11 rfl (lay.on (by decide) rfl) (v := (i : Int)) hct ?_
      refine g_icmp (t := 109) lk_113_14 rfl (by first | (unfold pm_inI; omega) | exact pm_and_in _ _ | exact pm_shr_in _ _ | exact pm_or_in _ _ | exact pm_xor_in _ _ | exact pm_shl_in _ _ | exact pm_cmp_in _ _ | exact pm_b8_in _ | (unfold pm_inI; split <;> omega)) (by first | (unfold pm_inI; omega) | exact pm_and_in _ _ | exact pm_shr_in _ _ | exact pm_or_in _ _ | exact pm_xor_in _ _ | exact pm_shl_in _ _ | exact pm_cmp_in _ _ | exact pm_b8_in _ | (unfold pm_inI; split <;> omega)) (fun h1 => ?_) (fun h1 => ?_)
      · replace h1 : (i : Int) ≤ (i : Int) := h1
        refine g_iload_n lk_113_109 rfl ?_
        refine g_ireturn lk_113_110 (fun h => absurd h (by decide)) ?_
        rw [hQ]
        exact ⟨by rw [fin], lay, hM, s', fa', w', f', hA, hB, k1, k2, k3, k4, k5, k6, k7, k8⟩
      · replace h1 : ¬ ((i : Int) ≤ (i : Int)) := h1
        omega
    | succ n ih =>
      intro i N cb sb' s' fa' w' f' hi lay hM hA hB k1 k2 k3 k4 k5 k6 k7 k8 k9
      have hk : i < L.length := by omega
      have tdN := hX.gr k7 m0 (by omega) (by omega) (fun a x y => td_out os ow x y)
      have iu := c_Told_isUsedLeaf0 (d := d + 3) (mc := 0) (ms := 0) lay hT tdN hk
      have ii := c_Told_isIdle0 (d := d + 4) (mc := 0) (ms := 0) lay hT tdN hk
      have hct := tdN.2.1
      rw [← hl] at hct
      obtain ⟨rd1, rd2, rd3, rd4, _⟩ := tdN.2.2.2 i hk
      obtain ⟨c1, c2, c3, c4, _, _⟩ := CM_bd hT hD hp _ _ (Nat.lt_succ_self _) hk
      have d8 := (hx i hk).1
      have fi : fn i = if idl (CM T L p i) then 0 else if (CM T L p i).2.2.1 = g then (CM T L p i).2.2.2.1 + BW T 0 (CM T L p i).1 (CM T L p i).2.1 else if (ndA L i).1 = 0 ∧ (CM T L p i).2.2.1 < g then (CM T L p i).2.2.2.1 else 0 := by rw [hfn]; rfl
      have x8 : xm fn i ≤ 11800 := xm_le (fun j hj => fb j (by omega))
      obtain ⟨a, ha⟩ : ∃ a, a = xm fn i := ⟨_, rfl⟩
      have go : ∀ (z : Int) (N : pm_M) (cb sb' s' fa' w' f' : Nat), z = ((max a (fn i) : Nat) : Int) → Lay N → TbAt N 24 T → CA N T s' fa' → CB N T 0 98 w' f' → (f' = 1 → fa' = 1) → (f = 1 → f' = 1) → (fa = 1 → fa' = 1) → (s' = s ∨ M.1 ≤ s') → (w' = w ∨ M.1 ≤ w') → s' ≠ w' → Gr [44, s, 98, w] M N → pm_ct N 98 6 = pm_ct M 98 6 → (f' = 1 ∨ 2 ≤ cb ∧ 8192 ≤ sb') → Wp (d + 5) 113 5 [(2, ((54 : Nat) : Int)), (0, (g : Int)), (2, ((98 : Nat) : Int)), (0, z), (0, (i : Int) + 1)] [] N cb sb' Q := fun z N cb sb' s' fa' w' f' hz q1 q2 q3 q4 q5 q6 q7 q8 q9 q10 q11 q12 q13 => by
        rw [hz, ha]; exact ih (i + 1) N cb sb' s' fa' w' f' (by omega) q1 q2 q3 q4 q5 q6 q7 q8 q9 q10 q11 q12 q13
      rw [← ha] at x8 ⊢
      obtain ⟨e, he⟩ : ∃ e, e = CM T L p i := ⟨_, rfl⟩
      rw [← he] at rd1 rd2 rd3 rd4 fi c1 c2 c3 c4 iu ii
      clear ih
      have same := fun z (hz : z = ((max a (fn i) : Nat) : Int)) => go z N cb sb' s' fa' w' f' hz lay hM hA hB k1 k2 k3 k4 k5 k6 k7 k8 k9
      by_cases q0 : idl e
      · rw [if_pos q0] at ii fi
        rw [if_neg (fun z => z.2 q0)] at iu
        clear k9
        refine g_iload lk_113_5 rfl ?_
        refine g_aload_n lk_113_7 rfl ?_
        refine g_getfield lk_113_8 rfl (lay.on (by decide) rfl) (v := ((55 : Nat) : Int)) (lay.rf rfl) ?_
        refine m_getfield (u := []) (M := N) lk_113_11 rfl (lay.on (by decide) rfl) (v := (l : Int)) hct ?_
        refine g_icmp (t := 109) lk_113_14 rfl (by first | (unfold pm_inI; omega) | exact pm_and_in _ _ | exact pm_shr_in _ _ | exact pm_or_in _ _ | exact pm_xor_in _ _ | exact pm_shl_in _ _ | exact pm_cmp_in _ _ | exact pm_b8_in _ | (unfold pm_inI; split <;> omega)) (by first | (unfold pm_inI; omega) | exact pm_and_in _ _ | exact pm_shr_in _ _ | exact pm_or_in _ _ | exact pm_xor_in _ _ | exact pm_shl_in _ _ | exact pm_cmp_in _ _ | exact pm_b8_in _ | (unfold pm_inI; split <;> omega)) (fun h1 => ?_) (fun h1 => ?_)
        · replace h1 : (l : Int) ≤ (i : Int) := h1
          omega
        · replace h1 : ¬ ((l : Int) ≤ (i : Int)) := h1
          refine g_aload_n lk_113_17 rfl ?_
          refine g_iload lk_113_18 rfl ?_
          refine g_virtual (p := 54) (Qc := _) lk_113_20 rfl (Nat.le_of_ble_eq_true rfl) rfl rfl (lay.on (by decide) rfl) (Nat.le_of_ble_eq_true rfl) (Nat.le_of_ble_eq_true rfl) (Nat.zero_le _) (Nat.zero_le _) (ii) ?_
          rintro _ N2 ⟨rfl, hN2⟩
          rw [hN2]
          show Wp _ 113 23 [(2, ((54 : Nat) : Int)), (0, (g : Int)), (2, ((98 : Nat) : Int)), (0, (a : Int)), (0, (i : Int))] [(0, 1)] N _ _ _
          refine g_if (t := 71) lk_113_23 rfl (by first | (unfold pm_inI; omega) | exact pm_and_in _ _ | exact pm_shr_in _ _ | exact pm_or_in _ _ | exact pm_xor_in _ _ | exact pm_shl_in _ _ | exact pm_cmp_in _ _ | exact pm_b8_in _ | (unfold pm_inI; split <;> omega)) (fun _ => ?_) (fun h => absurd (show ¬ (1 : Int) = (0 : Int) by omega) h)
          refine g_aload_n lk_113_71 rfl ?_
          refine g_iload lk_113_72 rfl ?_
          refine g_virtual (p := 54) (Qc := _) lk_113_74 rfl (Nat.le_of_ble_eq_true rfl) rfl rfl (lay.on (by decide) rfl) (Nat.le_of_ble_eq_true rfl) (Nat.le_of_ble_eq_true rfl) (Nat.zero_le _) (Nat.zero_le _) (iu) ?_
          rintro _ N3 ⟨rfl, hN3⟩
          rw [hN3]
          show Wp _ 113 77 [(2, ((54 : Nat) : Int)), (0, (g : Int)), (2, ((98 : Nat) : Int)), (0, (a : Int)), (0, (i : Int))] [(0, 0)] N _ _ _
          refine g_if (t := 103) lk_113_77 rfl (by first | (unfold pm_inI; omega) | exact pm_and_in _ _ | exact pm_shr_in _ _ | exact pm_or_in _ _ | exact pm_xor_in _ _ | exact pm_shl_in _ _ | exact pm_cmp_in _ _ | exact pm_b8_in _ | (unfold pm_inI; split <;> omega)) (fun _ => ?_) (fun h => absurd (show (0 : Int) = (0 : Int) by omega) h)
          refine g_iinc (ls' := [(2, ((54 : Nat) : Int)), (0, (g : Int)), (2, ((98 : Nat) : Int)), (0, (a : Int)), (0, ((i : Int) + 1))]) lk_113_103 rfl rfl rfl ?_
          refine g_goto (t := 5) lk_113_106 rfl ?_
          exact same _ (by rw [fi]; omega)
      rw [if_neg q0] at ii fi
      by_cases q1 : e.2.2.1 = g
      · rw [if_pos q1] at fi
        have bs := BW_small hT 0 (rs := e.1) (cs := e.2.1) (by omega) c1 (by omega) c2
        have e1 : 1 ≤ e.1 := by omega
        have e2 : 1 ≤ e.2.1 := by omega
        by_cases q2 : f' = 1
        · rw [q2] at hB
          have wo := c_Best_worthOf0s (d := d + 3) (mc := 0) (ms := 0) lay hT hM hB e1 c1 e2 c2
          obtain ⟨bw, hbw⟩ : ∃ b, b = BW T 0 e.1 e.2.1 := ⟨_, rfl⟩
          rw [← hbw] at wo fi bs
          clear k9
          refine g_iload lk_113_5 rfl ?_
          refine g_aload_n lk_113_7 rfl ?_
          refine g_getfield lk_113_8 rfl (lay.on (by decide) rfl) (v := ((55 : Nat) : Int)) (lay.rf rfl) ?_
          refine m_getfield (u := []) (M := N) lk_113_11 rfl (lay.on (by decide) rfl) (v := (l : Int)) hct ?_
          refine g_icmp (t := 109) lk_113_14 rfl (by first | (unfold pm_inI; omega) | exact pm_and_in _ _ | exact pm_shr_in _ _ | exact pm_or_in _ _ | exact pm_xor_in _ _ | exact pm_shl_in _ _ | exact pm_cmp_in _ _ | exact pm_b8_in _ | (unfold pm_inI; split <;> omega)) (by first | (unfold pm_inI; omega) | exact pm_and_in _ _ | exact pm_shr_in _ _ | exact pm_or_in _ _ | exact pm_xor_in _ _ | exact pm_shl_in _ _ | exact pm_cmp_in _ _ | exact pm_b8_in _ | (unfold pm_inI; split <;> omega)) (fun h1 => ?_) (fun h1 => ?_)
          · replace h1 : (l : Int) ≤ (i : Int) := h1
            omega
          · replace h1 : ¬ ((l : Int) ≤ (i : Int)) := h1
            refine g_aload_n lk_113_17 rfl ?_
            refine g_iload lk_113_18 rfl ?_
            refine g_virtual (p := 54) (Qc := _) lk_113_20 rfl (Nat.le_of_ble_eq_true rfl) rfl rfl (lay.on (by decide) rfl) (Nat.le_of_ble_eq_true rfl) (Nat.le_of_ble_eq_true rfl) (Nat.zero_le _) (Nat.zero_le _) (ii) ?_
            rintro _ N2 ⟨rfl, hN2⟩
            rw [hN2]
            show Wp _ 113 23 [(2, ((54 : Nat) : Int)), (0, (g : Int)), (2, ((98 : Nat) : Int)), (0, (a : Int)), (0, (i : Int))] [(0, 0)] N _ _ _
            refine g_if (t := 71) lk_113_23 rfl (by first | (unfold pm_inI; omega) | exact pm_and_in _ _ | exact pm_shr_in _ _ | exact pm_or_in _ _ | exact pm_xor_in _ _ | exact pm_shl_in _ _ | exact pm_cmp_in _ _ | exact pm_b8_in _ | (unfold pm_inI; split <;> omega)) (fun h => absurd h (show ¬ (¬ (0 : Int) = (0 : Int)) by omega)) (fun _ => ?_)
            refine g_aload_n lk_113_26 rfl ?_
            refine g_getfield lk_113_27 rfl (lay.on (by decide) rfl) (v := ((61 : Nat) : Int)) (lay.rf rfl) ?_
            refine g_iload lk_113_30 rfl ?_
            refine m_iaload (u := []) (M := N) lk_113_32 (lay.ay (by decide) rfl) (by omega) (j := i) (by omega) (v := (e.2.2.1 : Int)) rd3 ?_
            refine g_iload_n lk_113_33 rfl ?_
            refine g_icmp (t := 71) lk_113_34 rfl (by first | (unfold pm_inI; omega) | exact pm_and_in _ _ | exact pm_shr_in _ _ | exact pm_or_in _ _ | exact pm_xor_in _ _ | exact pm_shl_in _ _ | exact pm_cmp_in _ _ | exact pm_b8_in _ | (unfold pm_inI; split <;> omega)) (by first | (unfold pm_inI; omega) | exact pm_and_in _ _ | exact pm_shr_in _ _ | exact pm_or_in _ _ | exact pm_xor_in _ _ | exact pm_shl_in _ _ | exact pm_cmp_in _ _ | exact pm_b8_in _ | (unfold pm_inI; split <;> omega)) (fun h3 => ?_) (fun h3 => ?_)
            · replace h3 : ¬ (e.2.2.1 : Int) = (g : Int) := h3
              omega
            · replace h3 : ¬ (¬ (e.2.2.1 : Int) = (g : Int)) := h3
              refine g_iload_n lk_113_37 rfl ?_
              refine g_aload_n lk_113_38 rfl ?_
              refine g_getfield lk_113_39 rfl (lay.on (by decide) rfl) (v := ((62 : Nat) : Int)) (lay.rf rfl) ?_
              refine g_iload lk_113_42 rfl ?_
              refine m_iaload (u := []) (M := N) lk_113_44 (lay.ay (by decide) rfl) (by omega) (j := i) (by omega) (v := (e.2.2.2.1 : Int)) rd4 ?_
              refine g_aload_n lk_113_45 rfl ?_
              refine g_aload_n lk_113_46 rfl ?_
              refine g_getfield lk_113_47 rfl (lay.on (by decide) rfl) (v := ((59 : Nat) : Int)) (lay.rf rfl) ?_
              refine g_iload lk_113_50 rfl ?_
              refine m_iaload (u := []) (M := N) lk_113_52 (lay.ay (by decide) rfl) (by omega) (j := i) (by omega) (v := (e.1 : Int)) rd1 ?_
              refine g_aload_n lk_113_53 rfl ?_
              refine g_getfield lk_113_54 rfl (lay.on (by decide) rfl) (v := ((60 : Nat) : Int)) (lay.rf rfl) ?_
              refine g_iload lk_113_57 rfl ?_
              refine m_iaload (u := []) (M := N) lk_113_59 (lay.ay (by decide) rfl) (by omega) (j := i) (by omega) (v := (e.2.1 : Int)) rd2 ?_
              refine g_virtual (p := 98) (Qc := _) lk_113_60 rfl (Nat.le_of_ble_eq_true rfl) rfl rfl (lay.on (by decide) rfl) (Nat.le_of_ble_eq_true rfl) (Nat.le_of_ble_eq_true rfl) (Nat.zero_le _) (Nat.zero_le _) (wo) ?_
              rintro _ N4 ⟨rfl, hN4⟩
              rw [hN4]
              show Wp _ 113 63 [(2, ((54 : Nat) : Int)), (0, (g : Int)), (2, ((98 : Nat) : Int)), (0, (a : Int)), (0, (i : Int))] [(0, (bw : Int)), (0, (e.2.2.2.1 : Int)), (0, (a : Int))] N _ _ _
              refine g_iadd lk_113_63 ?_
              refine g_mmax lk_113_64 (by first | (unfold pm_inI; omega) | exact pm_and_in _ _ | exact pm_shr_in _ _ | exact pm_or_in _ _ | exact pm_xor_in _ _ | exact pm_shl_in _ _ | exact pm_cmp_in _ _ | exact pm_b8_in _ | (unfold pm_inI; split <;> omega)) (by first | (unfold pm_inI; omega) | exact pm_and_in _ _ | exact pm_shr_in _ _ | exact pm_or_in _ _ | exact pm_xor_in _ _ | exact pm_shl_in _ _ | exact pm_cmp_in _ _ | exact pm_b8_in _ | (unfold pm_inI; split <;> omega)) (Nat.le_of_ble_eq_true rfl) ?_
              refine g_istore_n (ls' := [(2, ((54 : Nat) : Int)), (0, (g : Int)), (2, ((98 : Nat) : Int)), (0, (max (a : Int) ((e.2.2.2.1 : Int) + (bw : Int)))), (0, (i : Int))]) lk_113_67 rfl rfl ?_
              refine g_goto (t := 103) lk_113_68 rfl ?_
              refine g_iinc (ls' := [(2, ((54 : Nat) : Int)), (0, (g : Int)), (2, ((98 : Nat) : Int)), (0, (max (a : Int) ((e.2.2.2.1 : Int) + (bw : Int)))), (0, ((i : Int) + 1))]) lk_113_103 rfl rfl rfl ?_
              refine g_goto (t := 5) lk_113_106 rfl ?_
              exact same _ (by rw [fi]; omega)
        · obtain ⟨k91, k92⟩ : 2 ≤ cb ∧ 8192 ≤ sb' := by rcases k9 with z | z; exact absurd z q2; exact z
          clear k9
          have os' := hA.1
          have ow' := hB.1
          obtain ⟨bw, hbw⟩ : ∃ b, b = BW T 0 e.1 e.2.1 := ⟨_, rfl⟩
          have wo := c_Best_worthOf0 (d := d) (mc := 2) (ms := 8192) lay hT hM hA hB k1 k6 (by omega) (by omega) e1 c1 e2 c2
          rw [← hbw] at wo fi bs
          refine g_iload lk_113_5 rfl ?_
          refine g_aload_n lk_113_7 rfl ?_
          refine g_getfield lk_113_8 rfl (lay.on (by decide) rfl) (v := ((55 : Nat) : Int)) (lay.rf rfl) ?_
          refine m_getfield (u := []) (M := N) lk_113_11 rfl (lay.on (by decide) rfl) (v := (l : Int)) hct ?_
          refine g_icmp (t := 109) lk_113_14 rfl (by first | (unfold pm_inI; omega) | exact pm_and_in _ _ | exact pm_shr_in _ _ | exact pm_or_in _ _ | exact pm_xor_in _ _ | exact pm_shl_in _ _ | exact pm_cmp_in _ _ | exact pm_b8_in _ | (unfold pm_inI; split <;> omega)) (by first | (unfold pm_inI; omega) | exact pm_and_in _ _ | exact pm_shr_in _ _ | exact pm_or_in _ _ | exact pm_xor_in _ _ | exact pm_shl_in _ _ | exact pm_cmp_in _ _ | exact pm_b8_in _ | (unfold pm_inI; split <;> omega)) (fun h1 => ?_) (fun h1 => ?_)
          · replace h1 : (l : Int) ≤ (i : Int) := h1
            omega
          · replace h1 : ¬ ((l : Int) ≤ (i : Int)) := h1
            refine g_aload_n lk_113_17 rfl ?_
            refine g_iload lk_113_18 rfl ?_
            refine g_virtual (p := 54) (Qc := _) lk_113_20 rfl (Nat.le_of_ble_eq_true rfl) rfl rfl (lay.on (by decide) rfl) (Nat.le_of_ble_eq_true rfl) (Nat.le_of_ble_eq_true rfl) (Nat.zero_le _) (Nat.zero_le _) (ii) ?_
            rintro _ N2 ⟨rfl, hN2⟩
            rw [hN2]
            show Wp _ 113 23 [(2, ((54 : Nat) : Int)), (0, (g : Int)), (2, ((98 : Nat) : Int)), (0, (a : Int)), (0, (i : Int))] [(0, 0)] N _ _ _
            refine g_if (t := 71) lk_113_23 rfl (by first | (unfold pm_inI; omega) | exact pm_and_in _ _ | exact pm_shr_in _ _ | exact pm_or_in _ _ | exact pm_xor_in _ _ | exact pm_shl_in _ _ | exact pm_cmp_in _ _ | exact pm_b8_in _ | (unfold pm_inI; split <;> omega)) (fun h => absurd h (show ¬ (¬ (0 : Int) = (0 : Int)) by omega)) (fun _ => ?_)
            refine g_aload_n lk_113_26 rfl ?_
            refine g_getfield lk_113_27 rfl (lay.on (by decide) rfl) (v := ((61 : Nat) : Int)) (lay.rf rfl) ?_
            refine g_iload lk_113_30 rfl ?_
            refine m_iaload (u := []) (M := N) lk_113_32 (lay.ay (by decide) rfl) (by omega) (j := i) (by omega) (v := (e.2.2.1 : Int)) rd3 ?_
            refine g_iload_n lk_113_33 rfl ?_
            refine g_icmp (t := 71) lk_113_34 rfl (by first | (unfold pm_inI; omega) | exact pm_and_in _ _ | exact pm_shr_in _ _ | exact pm_or_in _ _ | exact pm_xor_in _ _ | exact pm_shl_in _ _ | exact pm_cmp_in _ _ | exact pm_b8_in _ | (unfold pm_inI; split <;> omega)) (by first | (unfold pm_inI; omega) | exact pm_and_in _ _ | exact pm_shr_in _ _ | exact pm_or_in _ _ | exact pm_xor_in _ _ | exact pm_shl_in _ _ | exact pm_cmp_in _ _ | exact pm_b8_in _ | (unfold pm_inI; split <;> omega)) (fun h3 => ?_) (fun h3 => ?_)
            · replace h3 : ¬ (e.2.2.1 : Int) = (g : Int) := h3
              omega
            · replace h3 : ¬ (¬ (e.2.2.1 : Int) = (g : Int)) := h3
              refine g_iload_n lk_113_37 rfl ?_
              refine g_aload_n lk_113_38 rfl ?_
              refine g_getfield lk_113_39 rfl (lay.on (by decide) rfl) (v := ((62 : Nat) : Int)) (lay.rf rfl) ?_
              refine g_iload lk_113_42 rfl ?_
              refine m_iaload (u := []) (M := N) lk_113_44 (lay.ay (by decide) rfl) (by omega) (j := i) (by omega) (v := (e.2.2.2.1 : Int)) rd4 ?_
              refine g_aload_n lk_113_45 rfl ?_
              refine g_aload_n lk_113_46 rfl ?_
              refine g_getfield lk_113_47 rfl (lay.on (by decide) rfl) (v := ((59 : Nat) : Int)) (lay.rf rfl) ?_
              refine g_iload lk_113_50 rfl ?_
              refine m_iaload (u := []) (M := N) lk_113_52 (lay.ay (by decide) rfl) (by omega) (j := i) (by omega) (v := (e.1 : Int)) rd1 ?_
              refine g_aload_n lk_113_53 rfl ?_
              refine g_getfield lk_113_54 rfl (lay.on (by decide) rfl) (v := ((60 : Nat) : Int)) (lay.rf rfl) ?_
              refine g_iload lk_113_57 rfl ?_
              refine m_iaload (u := []) (M := N) lk_113_59 (lay.ay (by decide) rfl) (by omega) (j := i) (by omega) (v := (e.2.1 : Int)) rd2 ?_
              refine g_virtual (p := 98) (Qc := _) lk_113_60 rfl (Nat.le_of_ble_eq_true rfl) rfl rfl (lay.on (by decide) rfl) (Nat.le_of_ble_eq_true rfl) (Nat.le_of_ble_eq_true rfl) (by omega) (by omega) (wo) ?_
              rintro _ K1 ⟨rfl, lay1, hM1, s2, w2, hA2, hB2, ss, ww, sw, gg, g6⟩
              show Wp _ 113 63 [(2, ((54 : Nat) : Int)), (0, (g : Int)), (2, ((98 : Nat) : Int)), (0, (a : Int)), (0, (i : Int))] [(0, (bw : Int)), (0, (e.2.2.2.1 : Int)), (0, (a : Int))] K1 _ _ _
              refine g_iadd lk_113_63 ?_
              refine g_mmax lk_113_64 (by first | (unfold pm_inI; omega) | exact pm_and_in _ _ | exact pm_shr_in _ _ | exact pm_or_in _ _ | exact pm_xor_in _ _ | exact pm_shl_in _ _ | exact pm_cmp_in _ _ | exact pm_b8_in _ | (unfold pm_inI; split <;> omega)) (by first | (unfold pm_inI; omega) | exact pm_and_in _ _ | exact pm_shr_in _ _ | exact pm_or_in _ _ | exact pm_xor_in _ _ | exact pm_shl_in _ _ | exact pm_cmp_in _ _ | exact pm_b8_in _ | (unfold pm_inI; split <;> omega)) (Nat.le_of_ble_eq_true rfl) ?_
              refine g_istore_n (ls' := [(2, ((54 : Nat) : Int)), (0, (g : Int)), (2, ((98 : Nat) : Int)), (0, (max (a : Int) ((e.2.2.2.1 : Int) + (bw : Int)))), (0, (i : Int))]) lk_113_67 rfl rfl ?_
              refine g_goto (t := 103) lk_113_68 rfl ?_
              refine g_iinc (ls' := [(2, ((54 : Nat) : Int)), (0, (g : Int)), (2, ((98 : Nat) : Int)), (0, (max (a : Int) ((e.2.2.2.1 : Int) + (bw : Int)))), (0, ((i : Int) + 1))]) lk_113_103 rfl rfl rfl ?_
              refine g_goto (t := 5) lk_113_106 rfl ?_
              refine go _ _ _ _ s2 1 w2 1 (by rw [fi]; omega) lay1 hM1 hA2 hB2 (fun _ => rfl) (fun _ => rfl) (fun _ => rfl) ?_ ?_ sw (k7.tr2 gg (fun b hb => ?_)) (by rw [g6]; exact k8) (Or.inl rfl)
              · have := k7.1; rcases ss with z | z; rw [z]; exact k4; exact Or.inr (by omega)
              · have := k7.1; rcases ww with z | z; rw [z]; exact k5; exact Or.inr (by omega)
              · simp only [List.mem_cons, List.not_mem_nil, or_false] at hb ⊢
                rcases hb with z | z | z | z
                · exact Or.inl (Or.inl z)
                · rcases k4 with y | y; exact Or.inl (Or.inr (Or.inl (by omega))); exact Or.inr (by omega)
                · exact Or.inl (Or.inr (Or.inr (Or.inl z)))
                · rcases k5 with y | y; exact Or.inl (Or.inr (Or.inr (Or.inr (by omega)))); exact Or.inr (by omega)
      · rw [if_neg q1] at fi
        by_cases q3 : (ndA L i).1 = 0
        · rw [if_pos ⟨q3, q0⟩] at iu
          clear k9
          by_cases q4 : e.2.2.1 < g
          · rw [if_pos ⟨q3, q4⟩] at fi
            refine g_iload lk_113_5 rfl ?_
            refine g_aload_n lk_113_7 rfl ?_
            refine g_getfield lk_113_8 rfl (lay.on (by decide) rfl) (v := ((55 : Nat) : Int)) (lay.rf rfl) ?_
            refine m_getfield (u := []) (M := N) lk_113_11 rfl (lay.on (by decide) rfl) (v := (l : Int)) hct ?_
            refine g_icmp (t := 109) lk_113_14 rfl (by first | (unfold pm_inI; omega) | exact pm_and_in _ _ | exact pm_shr_in _ _ | exact pm_or_in _ _ | exact pm_xor_in _ _ | exact pm_shl_in _ _ | exact pm_cmp_in _ _ | exact pm_b8_in _ | (unfold pm_inI; split <;> omega)) (by first | (unfold pm_inI; omega) | exact pm_and_in _ _ | exact pm_shr_in _ _ | exact pm_or_in _ _ | exact pm_xor_in _ _ | exact pm_shl_in _ _ | exact pm_cmp_in _ _ | exact pm_b8_in _ | (unfold pm_inI; split <;> omega)) (fun h1 => ?_) (fun h1 => ?_)
            · replace h1 : (l : Int) ≤ (i : Int) := h1
              omega
            · replace h1 : ¬ ((l : Int) ≤ (i : Int)) := h1
              refine g_aload_n lk_113_17 rfl ?_
              refine g_iload lk_113_18 rfl ?_
              refine g_virtual (p := 54) (Qc := _) lk_113_20 rfl (Nat.le_of_ble_eq_true rfl) rfl rfl (lay.on (by decide) rfl) (Nat.le_of_ble_eq_true rfl) (Nat.le_of_ble_eq_true rfl) (Nat.zero_le _) (Nat.zero_le _) (ii) ?_
              rintro _ N2 ⟨rfl, hN2⟩
              rw [hN2]
              show Wp _ 113 23 [(2, ((54 : Nat) : Int)), (0, (g : Int)), (2, ((98 : Nat) : Int)), (0, (a : Int)), (0, (i : Int))] [(0, 0)] N _ _ _
              refine g_if (t := 71) lk_113_23 rfl (by first | (unfold pm_inI; omega) | exact pm_and_in _ _ | exact pm_shr_in _ _ | exact pm_or_in _ _ | exact pm_xor_in _ _ | exact pm_shl_in _ _ | exact pm_cmp_in _ _ | exact pm_b8_in _ | (unfold pm_inI; split <;> omega)) (fun h => absurd h (show ¬ (¬ (0 : Int) = (0 : Int)) by omega)) (fun _ => ?_)
              refine g_aload_n lk_113_26 rfl ?_
              refine g_getfield lk_113_27 rfl (lay.on (by decide) rfl) (v := ((61 : Nat) : Int)) (lay.rf rfl) ?_
              refine g_iload lk_113_30 rfl ?_
              refine m_iaload (u := []) (M := N) lk_113_32 (lay.ay (by decide) rfl) (by omega) (j := i) (by omega) (v := (e.2.2.1 : Int)) rd3 ?_
              refine g_iload_n lk_113_33 rfl ?_
              refine g_icmp (t := 71) lk_113_34 rfl (by first | (unfold pm_inI; omega) | exact pm_and_in _ _ | exact pm_shr_in _ _ | exact pm_or_in _ _ | exact pm_xor_in _ _ | exact pm_shl_in _ _ | exact pm_cmp_in _ _ | exact pm_b8_in _ | (unfold pm_inI; split <;> omega)) (by first | (unfold pm_inI; omega) | exact pm_and_in _ _ | exact pm_shr_in _ _ | exact pm_or_in _ _ | exact pm_xor_in _ _ | exact pm_shl_in _ _ | exact pm_cmp_in _ _ | exact pm_b8_in _ | (unfold pm_inI; split <;> omega)) (fun h3 => ?_) (fun h3 => ?_)
              · replace h3 : ¬ (e.2.2.1 : Int) = (g : Int) := h3
                refine g_aload_n lk_113_71 rfl ?_
                refine g_iload lk_113_72 rfl ?_
                refine g_virtual (p := 54) (Qc := _) lk_113_74 rfl (Nat.le_of_ble_eq_true rfl) rfl rfl (lay.on (by decide) rfl) (Nat.le_of_ble_eq_true rfl) (Nat.le_of_ble_eq_true rfl) (Nat.zero_le _) (Nat.zero_le _) (iu) ?_
                rintro _ N4 ⟨rfl, hN4⟩
                rw [hN4]
                show Wp _ 113 77 [(2, ((54 : Nat) : Int)), (0, (g : Int)), (2, ((98 : Nat) : Int)), (0, (a : Int)), (0, (i : Int))] [(0, 1)] N _ _ _
                refine g_if (t := 103) lk_113_77 rfl (by first | (unfold pm_inI; omega) | exact pm_and_in _ _ | exact pm_shr_in _ _ | exact pm_or_in _ _ | exact pm_xor_in _ _ | exact pm_shl_in _ _ | exact pm_cmp_in _ _ | exact pm_b8_in _ | (unfold pm_inI; split <;> omega)) (fun h => absurd h (show ¬ ((1 : Int) = (0 : Int)) by omega)) (fun _ => ?_)
                refine g_aload_n lk_113_80 rfl ?_
                refine g_getfield lk_113_81 rfl (lay.on (by decide) rfl) (v := ((61 : Nat) : Int)) (lay.rf rfl) ?_
                refine g_iload lk_113_84 rfl ?_
                refine m_iaload (u := []) (M := N) lk_113_86 (lay.ay (by decide) rfl) (by omega) (j := i) (by omega) (v := (e.2.2.1 : Int)) rd3 ?_
                refine g_iload_n lk_113_87 rfl ?_
                refine g_icmp (t := 103) lk_113_88 rfl (by first | (unfold pm_inI; omega) | exact pm_and_in _ _ | exact pm_shr_in _ _ | exact pm_or_in _ _ | exact pm_xor_in _ _ | exact pm_shl_in _ _ | exact pm_cmp_in _ _ | exact pm_b8_in _ | (unfold pm_inI; split <;> omega)) (by first | (unfold pm_inI; omega) | exact pm_and_in _ _ | exact pm_shr_in _ _ | exact pm_or_in _ _ | exact pm_xor_in _ _ | exact pm_shl_in _ _ | exact pm_cmp_in _ _ | exact pm_b8_in _ | (unfold pm_inI; split <;> omega)) (fun h5 => ?_) (fun h5 => ?_)
                · replace h5 : (g : Int) ≤ (e.2.2.1 : Int) := h5
                  refine g_iinc (ls' := [(2, ((54 : Nat) : Int)), (0, (g : Int)), (2, ((98 : Nat) : Int)), (0, (a : Int)), (0, ((i : Int) + 1))]) lk_113_103 rfl rfl rfl ?_
                  refine g_goto (t := 5) lk_113_106 rfl ?_
                  omega
                · replace h5 : ¬ ((g : Int) ≤ (e.2.2.1 : Int)) := h5
                  refine g_iload_n lk_113_91 rfl ?_
                  refine g_aload_n lk_113_92 rfl ?_
                  refine g_getfield lk_113_93 rfl (lay.on (by decide) rfl) (v := ((62 : Nat) : Int)) (lay.rf rfl) ?_
                  refine g_iload lk_113_96 rfl ?_
                  refine m_iaload (u := []) (M := N) lk_113_98 (lay.ay (by decide) rfl) (by omega) (j := i) (by omega) (v := (e.2.2.2.1 : Int)) rd4 ?_
                  refine g_mmax lk_113_99 (by first | (unfold pm_inI; omega) | exact pm_and_in _ _ | exact pm_shr_in _ _ | exact pm_or_in _ _ | exact pm_xor_in _ _ | exact pm_shl_in _ _ | exact pm_cmp_in _ _ | exact pm_b8_in _ | (unfold pm_inI; split <;> omega)) (by first | (unfold pm_inI; omega) | exact pm_and_in _ _ | exact pm_shr_in _ _ | exact pm_or_in _ _ | exact pm_xor_in _ _ | exact pm_shl_in _ _ | exact pm_cmp_in _ _ | exact pm_b8_in _ | (unfold pm_inI; split <;> omega)) (Nat.le_of_ble_eq_true rfl) ?_
                  refine g_istore_n (ls' := [(2, ((54 : Nat) : Int)), (0, (g : Int)), (2, ((98 : Nat) : Int)), (0, (max (a : Int) (e.2.2.2.1 : Int))), (0, (i : Int))]) lk_113_102 rfl rfl ?_
                  refine g_iinc (ls' := [(2, ((54 : Nat) : Int)), (0, (g : Int)), (2, ((98 : Nat) : Int)), (0, (max (a : Int) (e.2.2.2.1 : Int))), (0, ((i : Int) + 1))]) lk_113_103 rfl rfl rfl ?_
                  refine g_goto (t := 5) lk_113_106 rfl ?_
                  exact same _ (by rw [fi]; omega)
              · replace h3 : ¬ (¬ (e.2.2.1 : Int) = (g : Int)) := h3
                omega
          · rw [if_neg (fun z => q4 z.2)] at fi
            refine g_iload lk_113_5 rfl ?_
            refine g_aload_n lk_113_7 rfl ?_
            refine g_getfield lk_113_8 rfl (lay.on (by decide) rfl) (v := ((55 : Nat) : Int)) (lay.rf rfl) ?_
            refine m_getfield (u := []) (M := N) lk_113_11 rfl (lay.on (by decide) rfl) (v := (l : Int)) hct ?_
            refine g_icmp (t := 109) lk_113_14 rfl (by first | (unfold pm_inI; omega) | exact pm_and_in _ _ | exact pm_shr_in _ _ | exact pm_or_in _ _ | exact pm_xor_in _ _ | exact pm_shl_in _ _ | exact pm_cmp_in _ _ | exact pm_b8_in _ | (unfold pm_inI; split <;> omega)) (by first | (unfold pm_inI; omega) | exact pm_and_in _ _ | exact pm_shr_in _ _ | exact pm_or_in _ _ | exact pm_xor_in _ _ | exact pm_shl_in _ _ | exact pm_cmp_in _ _ | exact pm_b8_in _ | (unfold pm_inI; split <;> omega)) (fun h1 => ?_) (fun h1 => ?_)
            · replace h1 : (l : Int) ≤ (i : Int) := h1
              omega
            · replace h1 : ¬ ((l : Int) ≤ (i : Int)) := h1
              refine g_aload_n lk_113_17 rfl ?_
              refine g_iload lk_113_18 rfl ?_
              refine g_virtual (p := 54) (Qc := _) lk_113_20 rfl (Nat.le_of_ble_eq_true rfl) rfl rfl (lay.on (by decide) rfl) (Nat.le_of_ble_eq_true rfl) (Nat.le_of_ble_eq_true rfl) (Nat.zero_le _) (Nat.zero_le _) (ii) ?_
              rintro _ N2 ⟨rfl, hN2⟩
              rw [hN2]
              show Wp _ 113 23 [(2, ((54 : Nat) : Int)), (0, (g : Int)), (2, ((98 : Nat) : Int)), (0, (a : Int)), (0, (i : Int))] [(0, 0)] N _ _ _
              refine g_if (t := 71) lk_113_23 rfl (by first | (unfold pm_inI; omega) | exact pm_and_in _ _ | exact pm_shr_in _ _ | exact pm_or_in _ _ | exact pm_xor_in _ _ | exact pm_shl_in _ _ | exact pm_cmp_in _ _ | exact pm_b8_in _ | (unfold pm_inI; split <;> omega)) (fun h => absurd h (show ¬ (¬ (0 : Int) = (0 : Int)) by omega)) (fun _ => ?_)
              refine g_aload_n lk_113_26 rfl ?_
              refine g_getfield lk_113_27 rfl (lay.on (by decide) rfl) (v := ((61 : Nat) : Int)) (lay.rf rfl) ?_
              refine g_iload lk_113_30 rfl ?_
              refine m_iaload (u := []) (M := N) lk_113_32 (lay.ay (by decide) rfl) (by omega) (j := i) (by omega) (v := (e.2.2.1 : Int)) rd3 ?_
              refine g_iload_n lk_113_33 rfl ?_
              refine g_icmp (t := 71) lk_113_34 rfl (by first | (unfold pm_inI; omega) | exact pm_and_in _ _ | exact pm_shr_in _ _ | exact pm_or_in _ _ | exact pm_xor_in _ _ | exact pm_shl_in _ _ | exact pm_cmp_in _ _ | exact pm_b8_in _ | (unfold pm_inI; split <;> omega)) (by first | (unfold pm_inI; omega) | exact pm_and_in _ _ | exact pm_shr_in _ _ | exact pm_or_in _ _ | exact pm_xor_in _ _ | exact pm_shl_in _ _ | exact pm_cmp_in _ _ | exact pm_b8_in _ | (unfold pm_inI; split <;> omega)) (fun h3 => ?_) (fun h3 => ?_)
              · replace h3 : ¬ (e.2.2.1 : Int) = (g : Int) := h3
                refine g_aload_n lk_113_71 rfl ?_
                refine g_iload lk_113_72 rfl ?_
                refine g_virtual (p := 54) (Qc := _) lk_113_74 rfl (Nat.le_of_ble_eq_true rfl) rfl rfl (lay.on (by decide) rfl) (Nat.le_of_ble_eq_true rfl) (Nat.le_of_ble_eq_true rfl) (Nat.zero_le _) (Nat.zero_le _) (iu) ?_
                rintro _ N4 ⟨rfl, hN4⟩
                rw [hN4]
                show Wp _ 113 77 [(2, ((54 : Nat) : Int)), (0, (g : Int)), (2, ((98 : Nat) : Int)), (0, (a : Int)), (0, (i : Int))] [(0, 1)] N _ _ _
                refine g_if (t := 103) lk_113_77 rfl (by first | (unfold pm_inI; omega) | exact pm_and_in _ _ | exact pm_shr_in _ _ | exact pm_or_in _ _ | exact pm_xor_in _ _ | exact pm_shl_in _ _ | exact pm_cmp_in _ _ | exact pm_b8_in _ | (unfold pm_inI; split <;> omega)) (fun h => absurd h (show ¬ ((1 : Int) = (0 : Int)) by omega)) (fun _ => ?_)
                refine g_aload_n lk_113_80 rfl ?_
                refine g_getfield lk_113_81 rfl (lay.on (by decide) rfl) (v := ((61 : Nat) : Int)) (lay.rf rfl) ?_
                refine g_iload lk_113_84 rfl ?_
                refine m_iaload (u := []) (M := N) lk_113_86 (lay.ay (by decide) rfl) (by omega) (j := i) (by omega) (v := (e.2.2.1 : Int)) rd3 ?_
                refine g_iload_n lk_113_87 rfl ?_
                refine g_icmp (t := 103) lk_113_88 rfl (by first | (unfold pm_inI; omega) | exact pm_and_in _ _ | exact pm_shr_in _ _ | exact pm_or_in _ _ | exact pm_xor_in _ _ | exact pm_shl_in _ _ | exact pm_cmp_in _ _ | exact pm_b8_in _ | (unfold pm_inI; split <;> omega)) (by first | (unfold pm_inI; omega) | exact pm_and_in _ _ | exact pm_shr_in _ _ | exact pm_or_in _ _ | exact pm_xor_in _ _ | exact pm_shl_in _ _ | exact pm_cmp_in _ _ | exact pm_b8_in _ | (unfold pm_inI; split <;> omega)) (fun h5 => ?_) (fun h5 => ?_)
                · replace h5 : (g : Int) ≤ (e.2.2.1 : Int) := h5
                  refine g_iinc (ls' := [(2, ((54 : Nat) : Int)), (0, (g : Int)), (2, ((98 : Nat) : Int)), (0, (a : Int)), (0, ((i : Int) + 1))]) lk_113_103 rfl rfl rfl ?_
                  refine g_goto (t := 5) lk_113_106 rfl ?_
                  exact same _ (by rw [fi]; omega)
                · replace h5 : ¬ ((g : Int) ≤ (e.2.2.1 : Int)) := h5
                  refine g_iload_n lk_113_91 rfl ?_
                  refine g_aload_n lk_113_92 rfl ?_
                  refine g_getfield lk_113_93 rfl (lay.on (by decide) rfl) (v := ((62 : Nat) : Int)) (lay.rf rfl) ?_
                  refine g_iload lk_113_96 rfl ?_
                  refine m_iaload (u := []) (M := N) lk_113_98 (lay.ay (by decide) rfl) (by omega) (j := i) (by omega) (v := (e.2.2.2.1 : Int)) rd4 ?_
                  refine g_mmax lk_113_99 (by first | (unfold pm_inI; omega) | exact pm_and_in _ _ | exact pm_shr_in _ _ | exact pm_or_in _ _ | exact pm_xor_in _ _ | exact pm_shl_in _ _ | exact pm_cmp_in _ _ | exact pm_b8_in _ | (unfold pm_inI; split <;> omega)) (by first | (unfold pm_inI; omega) | exact pm_and_in _ _ | exact pm_shr_in _ _ | exact pm_or_in _ _ | exact pm_xor_in _ _ | exact pm_shl_in _ _ | exact pm_cmp_in _ _ | exact pm_b8_in _ | (unfold pm_inI; split <;> omega)) (Nat.le_of_ble_eq_true rfl) ?_
                  refine g_istore_n (ls' := [(2, ((54 : Nat) : Int)), (0, (g : Int)), (2, ((98 : Nat) : Int)), (0, (max (a : Int) (e.2.2.2.1 : Int))), (0, (i : Int))]) lk_113_102 rfl rfl ?_
                  refine g_iinc (ls' := [(2, ((54 : Nat) : Int)), (0, (g : Int)), (2, ((98 : Nat) : Int)), (0, (max (a : Int) (e.2.2.2.1 : Int))), (0, ((i : Int) + 1))]) lk_113_103 rfl rfl rfl ?_
                  refine g_goto (t := 5) lk_113_106 rfl ?_
                  omega
              · replace h3 : ¬ (¬ (e.2.2.1 : Int) = (g : Int)) := h3
                omega
        · rw [if_neg (fun z => q3 z.1)] at iu
          rw [if_neg (fun z => q3 z.1)] at fi
          clear k9
          refine g_iload lk_113_5 rfl ?_
          refine g_aload_n lk_113_7 rfl ?_
          refine g_getfield lk_113_8 rfl (lay.on (by decide) rfl) (v := ((55 : Nat) : Int)) (lay.rf rfl) ?_
          refine m_getfield (u := []) (M := N) lk_113_11 rfl (lay.on (by decide) rfl) (v := (l : Int)) hct ?_
          refine g_icmp (t := 109) lk_113_14 rfl (by first | (unfold pm_inI; omega) | exact pm_and_in _ _ | exact pm_shr_in _ _ | exact pm_or_in _ _ | exact pm_xor_in _ _ | exact pm_shl_in _ _ | exact pm_cmp_in _ _ | exact pm_b8_in _ | (unfold pm_inI; split <;> omega)) (by first | (unfold pm_inI; omega) | exact pm_and_in _ _ | exact pm_shr_in _ _ | exact pm_or_in _ _ | exact pm_xor_in _ _ | exact pm_shl_in _ _ | exact pm_cmp_in _ _ | exact pm_b8_in _ | (unfold pm_inI; split <;> omega)) (fun h1 => ?_) (fun h1 => ?_)
          · replace h1 : (l : Int) ≤ (i : Int) := h1
            omega
          · replace h1 : ¬ ((l : Int) ≤ (i : Int)) := h1
            refine g_aload_n lk_113_17 rfl ?_
            refine g_iload lk_113_18 rfl ?_
            refine g_virtual (p := 54) (Qc := _) lk_113_20 rfl (Nat.le_of_ble_eq_true rfl) rfl rfl (lay.on (by decide) rfl) (Nat.le_of_ble_eq_true rfl) (Nat.le_of_ble_eq_true rfl) (Nat.zero_le _) (Nat.zero_le _) (ii) ?_
            rintro _ N2 ⟨rfl, hN2⟩
            rw [hN2]
            show Wp _ 113 23 [(2, ((54 : Nat) : Int)), (0, (g : Int)), (2, ((98 : Nat) : Int)), (0, (a : Int)), (0, (i : Int))] [(0, 0)] N _ _ _
            refine g_if (t := 71) lk_113_23 rfl (by first | (unfold pm_inI; omega) | exact pm_and_in _ _ | exact pm_shr_in _ _ | exact pm_or_in _ _ | exact pm_xor_in _ _ | exact pm_shl_in _ _ | exact pm_cmp_in _ _ | exact pm_b8_in _ | (unfold pm_inI; split <;> omega)) (fun h => absurd h (show ¬ (¬ (0 : Int) = (0 : Int)) by omega)) (fun _ => ?_)
            refine g_aload_n lk_113_26 rfl ?_
            refine g_getfield lk_113_27 rfl (lay.on (by decide) rfl) (v := ((61 : Nat) : Int)) (lay.rf rfl) ?_
            refine g_iload lk_113_30 rfl ?_
            refine m_iaload (u := []) (M := N) lk_113_32 (lay.ay (by decide) rfl) (by omega) (j := i) (by omega) (v := (e.2.2.1 : Int)) rd3 ?_
            refine g_iload_n lk_113_33 rfl ?_
            refine g_icmp (t := 71) lk_113_34 rfl (by first | (unfold pm_inI; omega) | exact pm_and_in _ _ | exact pm_shr_in _ _ | exact pm_or_in _ _ | exact pm_xor_in _ _ | exact pm_shl_in _ _ | exact pm_cmp_in _ _ | exact pm_b8_in _ | (unfold pm_inI; split <;> omega)) (by first | (unfold pm_inI; omega) | exact pm_and_in _ _ | exact pm_shr_in _ _ | exact pm_or_in _ _ | exact pm_xor_in _ _ | exact pm_shl_in _ _ | exact pm_cmp_in _ _ | exact pm_b8_in _ | (unfold pm_inI; split <;> omega)) (fun h3 => ?_) (fun h3 => ?_)
            · replace h3 : ¬ (e.2.2.1 : Int) = (g : Int) := h3
              refine g_aload_n lk_113_71 rfl ?_
              refine g_iload lk_113_72 rfl ?_
              refine g_virtual (p := 54) (Qc := _) lk_113_74 rfl (Nat.le_of_ble_eq_true rfl) rfl rfl (lay.on (by decide) rfl) (Nat.le_of_ble_eq_true rfl) (Nat.le_of_ble_eq_true rfl) (Nat.zero_le _) (Nat.zero_le _) (iu) ?_
              rintro _ N4 ⟨rfl, hN4⟩
              rw [hN4]
              show Wp _ 113 77 [(2, ((54 : Nat) : Int)), (0, (g : Int)), (2, ((98 : Nat) : Int)), (0, (a : Int)), (0, (i : Int))] [(0, 0)] N _ _ _
              refine g_if (t := 103) lk_113_77 rfl (by first | (unfold pm_inI; omega) | exact pm_and_in _ _ | exact pm_shr_in _ _ | exact pm_or_in _ _ | exact pm_xor_in _ _ | exact pm_shl_in _ _ | exact pm_cmp_in _ _ | exact pm_b8_in _ | (unfold pm_inI; split <;> omega)) (fun _ => ?_) (fun h => absurd (show (0 : Int) = (0 : Int) by omega) h)
              refine g_iinc (ls' := [(2, ((54 : Nat) : Int)), (0, (g : Int)), (2, ((98 : Nat) : Int)), (0, (a : Int)), (0, ((i : Int) + 1))]) lk_113_103 rfl rfl rfl ?_
              refine g_goto (t := 5) lk_113_106 rfl ?_
              exact same _ (by rw [fi]; omega)
            · replace h3 : ¬ (¬ (e.2.2.1 : Int) = (g : Int)) := h3
              omega
  show Wp (d + 5) 113 0 [(2, ((54 : Nat) : Int)), (0, (g : Int)), (2, ((98 : Nat) : Int)), (9, 0), (9, 0)] [] M mc ms Q
  refine g_iconst lk_113_0 ?_
  refine g_istore_n (ls' := [(2, ((54 : Nat) : Int)), (0, (g : Int)), (2, ((98 : Nat) : Int)), (0, 0), (9, 0)]) lk_113_1 rfl rfl ?_
  refine g_iconst lk_113_2 ?_
  refine g_istore (ls' := [(2, ((54 : Nat) : Int)), (0, (g : Int)), (2, ((98 : Nat) : Int)), (0, 0), (0, 0)]) lk_113_3 rfl rfl ?_
  exact loop l 0 M mc ms s fa w f (by omega) lay0 hM0 hA0 hB0 hff (fun z => z) (fun z => z) (Or.inl rfl) (Or.inl rfl) hsw (Gr.refl _ _) rfl (Or.inr ⟨b1, b2⟩)
set_option maxHeartbeats 8000000 in
theorem c_Told_graftedCost1 {d mc ms : Nat} {M : pm_M} (lay0 : Lay M) {T : Tab} (hT : TabOK T) (hM0 : TbAt M 24 T) {s fa w f : Nat} (hA0 : CA M T s fa) (hB0 : CB M T 0 98 w f) (hff : f = 1 → fa = 1) (hsw : s ≠ w) (b1 : 2 ≤ mc) (b2 : 8192 ≤ ms) {L : List Nd} {p dp : Nat → Nat} (hX : TdAt M 65 T L p dp) {g : Nat} (hg : g ≤ 9) :
    pm_E (d + 5) 113 [(2, ((65 : Nat) : Int)), (0, (g : Int)), (2, ((98 : Nat) : Int))] M mc ms (fun ρ M' => ρ = some (0, (x2 T (gCel T L p g) : Int)) ∧ Wk M M' T s fa w f) := by
  obtain ⟨Q, hQ⟩ : ∃ Q : pm_Q, Q = (fun ρ M' => ρ = some (0, (x2 T (gCel T L p g) : Int)) ∧ Wk M M' T s fa w f) := ⟨_, rfl⟩
  rw [← hQ]
  obtain ⟨hD, hp, hx⟩ := hX.1
  have l31 := hD.2.1
  have os := hA0.1
  have ow := hB0.1
  have m0 := lay0.1
  have fin := x2_graft hT hD hp g
  obtain ⟨fn, hfn⟩ : ∃ q : Nat → Nat, q = gNod T L p g := ⟨_, rfl⟩
  rw [← hfn] at fin
  obtain ⟨l, hl⟩ : ∃ l, l = L.length := ⟨_, rfl⟩
  rw [← hl] at l31 fin
  have fb : ∀ i, i < l → fn i ≤ 11800 := fun i hi => by
    obtain ⟨c1, c2, c3, c4, _, _⟩ := CM_bd hT hD hp _ _ (Nat.lt_succ_self _) (show i < L.length by omega)
    have := (hx i (by omega)).1
    rw [hfn]
    unfold gNod
    by_cases q : idl (CM T L p i)
    · rw [if_pos q]; omega
    rw [if_neg q]
    have := BW_small hT 0 (rs := (CM T L p i).1) (cs := (CM T L p i).2.1) (by omega) c1 (by omega) c2
    split
    · omega
    · split <;> omega
  have loop : ∀ (n i : Nat) (N : pm_M) (cb sb' s' fa' w' f' : Nat), i + n = l → Lay N → TbAt N 24 T → CA N T s' fa' → CB N T 0 98 w' f' → (f' = 1 → fa' = 1) → (f = 1 → f' = 1) → (fa = 1 → fa' = 1) → (s' = s ∨ M.1 ≤ s') → (w' = w ∨ M.1 ≤ w') → s' ≠ w' → Gr [44, s, 98, w] M N → pm_ct N 98 6 = pm_ct M 98 6 → (f' = 1 ∨ 2 ≤ cb ∧ 8192 ≤ sb') → Wp (d + 5) 113 5 [(2, ((65 : Nat) : Int)), (0, (g : Int)), (2, ((98 : Nat) : Int)), (0, ((xm fn i : Nat) : Int)), (0, (i : Int))] [] N cb sb' Q := by
    intro n
    induction n with
    | zero =>
      intro i N cb sb' s' fa' w' f' hi lay hM hA hB k1 k2 k3 k4 k5 k6 k7 k8 k9
      have e : i = l := by omega
      have hct := (hX.gr k7 m0 (by omega) (by omega) (fun a x y => td_out os ow x y)).2.1
      rw [← hl, ← e] at hct
      rw [← e] at fin
      clear k9
      refine g_iload lk_113_5 rfl ?_
      refine g_aload_n lk_113_7 rfl ?_
      refine g_getfield lk_113_8 rfl (lay.on (by decide) rfl) (v := ((66 : Nat) : Int)) (lay.rf rfl) ?_
      refine m_getfield (u := []) (M := N) lk_113_11 rfl (lay.on (by decide) rfl) (v := (i : Int)) hct ?_
      refine g_icmp (t := 109) lk_113_14 rfl (by first | (unfold pm_inI; omega) | exact pm_and_in _ _ | exact pm_shr_in _ _ | exact pm_or_in _ _ | exact pm_xor_in _ _ | exact pm_shl_in _ _ | exact pm_cmp_in _ _ | exact pm_b8_in _ | (unfold pm_inI; split <;> omega)) (by first | (unfold pm_inI; omega) | exact pm_and_in _ _ | exact pm_shr_in _ _ | exact pm_or_in _ _ | exact pm_xor_in _ _ | exact pm_shl_in _ _ | exact pm_cmp_in _ _ | exact pm_b8_in _ | (unfold pm_inI; split <;> omega)) (fun h1 => ?_) (fun h1 => ?_)
      · replace h1 : (i : Int) ≤ (i : Int) := h1
        refine g_iload_n lk_113_109 rfl ?_
        refine g_ireturn lk_113_110 (fun h => absurd h (by decide)) ?_
        rw [hQ]
        exact ⟨by rw [fin], lay, hM, s', fa', w', f', hA, hB, k1, k2, k3, k4, k5, k6, k7, k8⟩
      · replace h1 : ¬ ((i : Int) ≤ (i : Int)) := h1
        omega
    | succ n ih =>
      intro i N cb sb' s' fa' w' f' hi lay hM hA hB k1 k2 k3 k4 k5 k6 k7 k8 k9
      have hk : i < L.length := by omega
      have tdN := hX.gr k7 m0 (by omega) (by omega) (fun a x y => td_out os ow x y)
      have iu := c_Told_isUsedLeaf1 (d := d + 3) (mc := 0) (ms := 0) lay hT tdN hk
      have ii := c_Told_isIdle1 (d := d + 4) (mc := 0) (ms := 0) lay hT tdN hk
      have hct := tdN.2.1
      rw [← hl] at hct
      obtain ⟨rd1, rd2, rd3, rd4, _⟩ := tdN.2.2.2 i hk
      obtain ⟨c1, c2, c3, c4, _, _⟩ := CM_bd hT hD hp _ _ (Nat.lt_succ_self _) hk
      have d8 := (hx i hk).1
      have fi : fn i = if idl (CM T L p i) then 0 else if (CM T L p i).2.2.1 = g then (CM T L p i).2.2.2.1 + BW T 0 (CM T L p i).1 (CM T L p i).2.1 else if (ndA L i).1 = 0 ∧ (CM T L p i).2.2.1 < g then (CM T L p i).2.2.2.1 else 0 := by rw [hfn]; rfl
      have x8 : xm fn i ≤ 11800 := xm_le (fun j hj => fb j (by omega))
      obtain ⟨a, ha⟩ : ∃ a, a = xm fn i := ⟨_, rfl⟩
      have go : ∀ (z : Int) (N : pm_M) (cb sb' s' fa' w' f' : Nat), z = ((max a (fn i) : Nat) : Int) → Lay N → TbAt N 24 T → CA N T s' fa' → CB N T 0 98 w' f' → (f' = 1 → fa' = 1) → (f = 1 → f' = 1) → (fa = 1 → fa' = 1) → (s' = s ∨ M.1 ≤ s') → (w' = w ∨ M.1 ≤ w') → s' ≠ w' → Gr [44, s, 98, w] M N → pm_ct N 98 6 = pm_ct M 98 6 → (f' = 1 ∨ 2 ≤ cb ∧ 8192 ≤ sb') → Wp (d + 5) 113 5 [(2, ((65 : Nat) : Int)), (0, (g : Int)), (2, ((98 : Nat) : Int)), (0, z), (0, (i : Int) + 1)] [] N cb sb' Q := fun z N cb sb' s' fa' w' f' hz q1 q2 q3 q4 q5 q6 q7 q8 q9 q10 q11 q12 q13 => by
        rw [hz, ha]; exact ih (i + 1) N cb sb' s' fa' w' f' (by omega) q1 q2 q3 q4 q5 q6 q7 q8 q9 q10 q11 q12 q13
      rw [← ha] at x8 ⊢
      obtain ⟨e, he⟩ : ∃ e, e = CM T L p i := ⟨_, rfl⟩
      rw [← he] at rd1 rd2 rd3 rd4 fi c1 c2 c3 c4 iu ii
      clear ih
      have same := fun z (hz : z = ((max a (fn i) : Nat) : Int)) => go z N cb sb' s' fa' w' f' hz lay hM hA hB k1 k2 k3 k4 k5 k6 k7 k8 k9
      by_cases q0 : idl e
      · rw [if_pos q0] at ii fi
        rw [if_neg (fun z => z.2 q0)] at iu
        clear k9
        refine g_iload lk_113_5 rfl ?_
        refine g_aload_n lk_113_7 rfl ?_
        refine g_getfield lk_113_8 rfl (lay.on (by decide) rfl) (v := ((66 : Nat) : Int)) (lay.rf rfl) ?_
        refine m_getfield (u := []) (M := N) lk_113_11 rfl (lay.on (by decide) rfl) (v := (l : Int)) hct ?_
        refine g_icmp (t := 109) lk_113_14 rfl (by first | (unfold pm_inI; omega) | exact pm_and_in _ _ | exact pm_shr_in _ _ | exact pm_or_in _ _ | exact pm_xor_in _ _ | exact pm_shl_in _ _ | exact pm_cmp_in _ _ | exact pm_b8_in _ | (unfold pm_inI; split <;> omega)) (by first | (unfold pm_inI; omega) | exact pm_and_in _ _ | exact pm_shr_in _ _ | exact pm_or_in _ _ | exact pm_xor_in _ _ | exact pm_shl_in _ _ | exact pm_cmp_in _ _ | exact pm_b8_in _ | (unfold pm_inI; split <;> omega)) (fun h1 => ?_) (fun h1 => ?_)
        · replace h1 : (l : Int) ≤ (i : Int) := h1
          omega
        · replace h1 : ¬ ((l : Int) ≤ (i : Int)) := h1
          refine g_aload_n lk_113_17 rfl ?_
          refine g_iload lk_113_18 rfl ?_
          refine g_virtual (p := 65) (Qc := _) lk_113_20 rfl (Nat.le_of_ble_eq_true rfl) rfl rfl (lay.on (by decide) rfl) (Nat.le_of_ble_eq_true rfl) (Nat.le_of_ble_eq_true rfl) (Nat.zero_le _) (Nat.zero_le _) (ii) ?_
          rintro _ N2 ⟨rfl, hN2⟩
          rw [hN2]
          show Wp _ 113 23 [(2, ((65 : Nat) : Int)), (0, (g : Int)), (2, ((98 : Nat) : Int)), (0, (a : Int)), (0, (i : Int))] [(0, 1)] N _ _ _
          refine g_if (t := 71) lk_113_23 rfl (by first | (unfold pm_inI; omega) | exact pm_and_in _ _ | exact pm_shr_in _ _ | exact pm_or_in _ _ | exact pm_xor_in _ _ | exact pm_shl_in _ _ | exact pm_cmp_in _ _ | exact pm_b8_in _ | (unfold pm_inI; split <;> omega)) (fun _ => ?_) (fun h => absurd (show ¬ (1 : Int) = (0 : Int) by omega) h)
          refine g_aload_n lk_113_71 rfl ?_
          refine g_iload lk_113_72 rfl ?_
          refine g_virtual (p := 65) (Qc := _) lk_113_74 rfl (Nat.le_of_ble_eq_true rfl) rfl rfl (lay.on (by decide) rfl) (Nat.le_of_ble_eq_true rfl) (Nat.le_of_ble_eq_true rfl) (Nat.zero_le _) (Nat.zero_le _) (iu) ?_
          rintro _ N3 ⟨rfl, hN3⟩
          rw [hN3]
          show Wp _ 113 77 [(2, ((65 : Nat) : Int)), (0, (g : Int)), (2, ((98 : Nat) : Int)), (0, (a : Int)), (0, (i : Int))] [(0, 0)] N _ _ _
          refine g_if (t := 103) lk_113_77 rfl (by first | (unfold pm_inI; omega) | exact pm_and_in _ _ | exact pm_shr_in _ _ | exact pm_or_in _ _ | exact pm_xor_in _ _ | exact pm_shl_in _ _ | exact pm_cmp_in _ _ | exact pm_b8_in _ | (unfold pm_inI; split <;> omega)) (fun _ => ?_) (fun h => absurd (show (0 : Int) = (0 : Int) by omega) h)
          refine g_iinc (ls' := [(2, ((65 : Nat) : Int)), (0, (g : Int)), (2, ((98 : Nat) : Int)), (0, (a : Int)), (0, ((i : Int) + 1))]) lk_113_103 rfl rfl rfl ?_
          refine g_goto (t := 5) lk_113_106 rfl ?_
          exact same _ (by rw [fi]; omega)
      rw [if_neg q0] at ii fi
      by_cases q1 : e.2.2.1 = g
      · rw [if_pos q1] at fi
        have bs := BW_small hT 0 (rs := e.1) (cs := e.2.1) (by omega) c1 (by omega) c2
        have e1 : 1 ≤ e.1 := by omega
        have e2 : 1 ≤ e.2.1 := by omega
        by_cases q2 : f' = 1
        · rw [q2] at hB
          have wo := c_Best_worthOf0s (d := d + 3) (mc := 0) (ms := 0) lay hT hM hB e1 c1 e2 c2
          obtain ⟨bw, hbw⟩ : ∃ b, b = BW T 0 e.1 e.2.1 := ⟨_, rfl⟩
          rw [← hbw] at wo fi bs
          clear k9
          refine g_iload lk_113_5 rfl ?_
          refine g_aload_n lk_113_7 rfl ?_
          refine g_getfield lk_113_8 rfl (lay.on (by decide) rfl) (v := ((66 : Nat) : Int)) (lay.rf rfl) ?_
          refine m_getfield (u := []) (M := N) lk_113_11 rfl (lay.on (by decide) rfl) (v := (l : Int)) hct ?_
          refine g_icmp (t := 109) lk_113_14 rfl (by first | (unfold pm_inI; omega) | exact pm_and_in _ _ | exact pm_shr_in _ _ | exact pm_or_in _ _ | exact pm_xor_in _ _ | exact pm_shl_in _ _ | exact pm_cmp_in _ _ | exact pm_b8_in _ | (unfold pm_inI; split <;> omega)) (by first | (unfold pm_inI; omega) | exact pm_and_in _ _ | exact pm_shr_in _ _ | exact pm_or_in _ _ | exact pm_xor_in _ _ | exact pm_shl_in _ _ | exact pm_cmp_in _ _ | exact pm_b8_in _ | (unfold pm_inI; split <;> omega)) (fun h1 => ?_) (fun h1 => ?_)
          · replace h1 : (l : Int) ≤ (i : Int) := h1
            omega
          · replace h1 : ¬ ((l : Int) ≤ (i : Int)) := h1
            refine g_aload_n lk_113_17 rfl ?_
            refine g_iload lk_113_18 rfl ?_
            refine g_virtual (p := 65) (Qc := _) lk_113_20 rfl (Nat.le_of_ble_eq_true rfl) rfl rfl (lay.on (by decide) rfl) (Nat.le_of_ble_eq_true rfl) (Nat.le_of_ble_eq_true rfl) (Nat.zero_le _) (Nat.zero_le _) (ii) ?_
            rintro _ N2 ⟨rfl, hN2⟩
            rw [hN2]
            show Wp _ 113 23 [(2, ((65 : Nat) : Int)), (0, (g : Int)), (2, ((98 : Nat) : Int)), (0, (a : Int)), (0, (i : Int))] [(0, 0)] N _ _ _
            refine g_if (t := 71) lk_113_23 rfl (by first | (unfold pm_inI; omega) | exact pm_and_in _ _ | exact pm_shr_in _ _ | exact pm_or_in _ _ | exact pm_xor_in _ _ | exact pm_shl_in _ _ | exact pm_cmp_in _ _ | exact pm_b8_in _ | (unfold pm_inI; split <;> omega)) (fun h => absurd h (show ¬ (¬ (0 : Int) = (0 : Int)) by omega)) (fun _ => ?_)
            refine g_aload_n lk_113_26 rfl ?_
            refine g_getfield lk_113_27 rfl (lay.on (by decide) rfl) (v := ((72 : Nat) : Int)) (lay.rf rfl) ?_
            refine g_iload lk_113_30 rfl ?_
            refine m_iaload (u := []) (M := N) lk_113_32 (lay.ay (by decide) rfl) (by omega) (j := i) (by omega) (v := (e.2.2.1 : Int)) rd3 ?_
            refine g_iload_n lk_113_33 rfl ?_
            refine g_icmp (t := 71) lk_113_34 rfl (by first | (unfold pm_inI; omega) | exact pm_and_in _ _ | exact pm_shr_in _ _ | exact pm_or_in _ _ | exact pm_xor_in _ _ | exact pm_shl_in _ _ | exact pm_cmp_in _ _ | exact pm_b8_in _ | (unfold pm_inI; split <;> omega)) (by first | (unfold pm_inI; omega) | exact pm_and_in _ _ | exact pm_shr_in _ _ | exact pm_or_in _ _ | exact pm_xor_in _ _ | exact pm_shl_in _ _ | exact pm_cmp_in _ _ | exact pm_b8_in _ | (unfold pm_inI; split <;> omega)) (fun h3 => ?_) (fun h3 => ?_)
            · replace h3 : ¬ (e.2.2.1 : Int) = (g : Int) := h3
              omega
            · replace h3 : ¬ (¬ (e.2.2.1 : Int) = (g : Int)) := h3
              refine g_iload_n lk_113_37 rfl ?_
              refine g_aload_n lk_113_38 rfl ?_
              refine g_getfield lk_113_39 rfl (lay.on (by decide) rfl) (v := ((73 : Nat) : Int)) (lay.rf rfl) ?_
              refine g_iload lk_113_42 rfl ?_
              refine m_iaload (u := []) (M := N) lk_113_44 (lay.ay (by decide) rfl) (by omega) (j := i) (by omega) (v := (e.2.2.2.1 : Int)) rd4 ?_
              refine g_aload_n lk_113_45 rfl ?_
              refine g_aload_n lk_113_46 rfl ?_
              refine g_getfield lk_113_47 rfl (lay.on (by decide) rfl) (v := ((70 : Nat) : Int)) (lay.rf rfl) ?_
              refine g_iload lk_113_50 rfl ?_
              refine m_iaload (u := []) (M := N) lk_113_52 (lay.ay (by decide) rfl) (by omega) (j := i) (by omega) (v := (e.1 : Int)) rd1 ?_
              refine g_aload_n lk_113_53 rfl ?_
              refine g_getfield lk_113_54 rfl (lay.on (by decide) rfl) (v := ((71 : Nat) : Int)) (lay.rf rfl) ?_
              refine g_iload lk_113_57 rfl ?_
              refine m_iaload (u := []) (M := N) lk_113_59 (lay.ay (by decide) rfl) (by omega) (j := i) (by omega) (v := (e.2.1 : Int)) rd2 ?_
              refine g_virtual (p := 98) (Qc := _) lk_113_60 rfl (Nat.le_of_ble_eq_true rfl) rfl rfl (lay.on (by decide) rfl) (Nat.le_of_ble_eq_true rfl) (Nat.le_of_ble_eq_true rfl) (Nat.zero_le _) (Nat.zero_le _) (wo) ?_
              rintro _ N4 ⟨rfl, hN4⟩
              rw [hN4]
              show Wp _ 113 63 [(2, ((65 : Nat) : Int)), (0, (g : Int)), (2, ((98 : Nat) : Int)), (0, (a : Int)), (0, (i : Int))] [(0, (bw : Int)), (0, (e.2.2.2.1 : Int)), (0, (a : Int))] N _ _ _
              refine g_iadd lk_113_63 ?_
              refine g_mmax lk_113_64 (by first | (unfold pm_inI; omega) | exact pm_and_in _ _ | exact pm_shr_in _ _ | exact pm_or_in _ _ | exact pm_xor_in _ _ | exact pm_shl_in _ _ | exact pm_cmp_in _ _ | exact pm_b8_in _ | (unfold pm_inI; split <;> omega)) (by first | (unfold pm_inI; omega) | exact pm_and_in _ _ | exact pm_shr_in _ _ | exact pm_or_in _ _ | exact pm_xor_in _ _ | exact pm_shl_in _ _ | exact pm_cmp_in _ _ | exact pm_b8_in _ | (unfold pm_inI; split <;> omega)) (Nat.le_of_ble_eq_true rfl) ?_
              refine g_istore_n (ls' := [(2, ((65 : Nat) : Int)), (0, (g : Int)), (2, ((98 : Nat) : Int)), (0, (max (a : Int) ((e.2.2.2.1 : Int) + (bw : Int)))), (0, (i : Int))]) lk_113_67 rfl rfl ?_
              refine g_goto (t := 103) lk_113_68 rfl ?_
              refine g_iinc (ls' := [(2, ((65 : Nat) : Int)), (0, (g : Int)), (2, ((98 : Nat) : Int)), (0, (max (a : Int) ((e.2.2.2.1 : Int) + (bw : Int)))), (0, ((i : Int) + 1))]) lk_113_103 rfl rfl rfl ?_
              refine g_goto (t := 5) lk_113_106 rfl ?_
              exact same _ (by rw [fi]; omega)
        · obtain ⟨k91, k92⟩ : 2 ≤ cb ∧ 8192 ≤ sb' := by rcases k9 with z | z; exact absurd z q2; exact z
          clear k9
          have os' := hA.1
          have ow' := hB.1
          obtain ⟨bw, hbw⟩ : ∃ b, b = BW T 0 e.1 e.2.1 := ⟨_, rfl⟩
          have wo := c_Best_worthOf0 (d := d) (mc := 2) (ms := 8192) lay hT hM hA hB k1 k6 (by omega) (by omega) e1 c1 e2 c2
          rw [← hbw] at wo fi bs
          refine g_iload lk_113_5 rfl ?_
          refine g_aload_n lk_113_7 rfl ?_
          refine g_getfield lk_113_8 rfl (lay.on (by decide) rfl) (v := ((66 : Nat) : Int)) (lay.rf rfl) ?_
          refine m_getfield (u := []) (M := N) lk_113_11 rfl (lay.on (by decide) rfl) (v := (l : Int)) hct ?_
          refine g_icmp (t := 109) lk_113_14 rfl (by first | (unfold pm_inI; omega) | exact pm_and_in _ _ | exact pm_shr_in _ _ | exact pm_or_in _ _ | exact pm_xor_in _ _ | exact pm_shl_in _ _ | exact pm_cmp_in _ _ | exact pm_b8_in _ | (unfold pm_inI; split <;> omega)) (by first | (unfold pm_inI; omega) | exact pm_and_in _ _ | exact pm_shr_in _ _ | exact pm_or_in _ _ | exact pm_xor_in _ _ | exact pm_shl_in _ _ | exact pm_cmp_in _ _ | exact pm_b8_in _ | (unfold pm_inI; split <;> omega)) (fun h1 => ?_) (fun h1 => ?_)
          · replace h1 : (l : Int) ≤ (i : Int) := h1
            omega
          · replace h1 : ¬ ((l : Int) ≤ (i : Int)) := h1
            refine g_aload_n lk_113_17 rfl ?_
            refine g_iload lk_113_18 rfl ?_
            refine g_virtual (p := 65) (Qc := _) lk_113_20 rfl (Nat.le_of_ble_eq_true rfl) rfl rfl (lay.on (by decide) rfl) (Nat.le_of_ble_eq_true rfl) (Nat.le_of_ble_eq_true rfl) (Nat.zero_le _) (Nat.zero_le _) (ii) ?_
            rintro _ N2 ⟨rfl, hN2⟩
            rw [hN2]
            show Wp _ 113 23 [(2, ((65 : Nat) : Int)), (0, (g : Int)), (2, ((98 : Nat) : Int)), (0, (a : Int)), (0, (i : Int))] [(0, 0)] N _ _ _
            refine g_if (t := 71) lk_113_23 rfl (by first | (unfold pm_inI; omega) | exact pm_and_in _ _ | exact pm_shr_in _ _ | exact pm_or_in _ _ | exact pm_xor_in _ _ | exact pm_shl_in _ _ | exact pm_cmp_in _ _ | exact pm_b8_in _ | (unfold pm_inI; split <;> omega)) (fun h => absurd h (show ¬ (¬ (0 : Int) = (0 : Int)) by omega)) (fun _ => ?_)
            refine g_aload_n lk_113_26 rfl ?_
            refine g_getfield lk_113_27 rfl (lay.on (by decide) rfl) (v := ((72 : Nat) : Int)) (lay.rf rfl) ?_
            refine g_iload lk_113_30 rfl ?_
            refine m_iaload (u := []) (M := N) lk_113_32 (lay.ay (by decide) rfl) (by omega) (j := i) (by omega) (v := (e.2.2.1 : Int)) rd3 ?_
            refine g_iload_n lk_113_33 rfl ?_
            refine g_icmp (t := 71) lk_113_34 rfl (by first | (unfold pm_inI; omega) | exact pm_and_in _ _ | exact pm_shr_in _ _ | exact pm_or_in _ _ | exact pm_xor_in _ _ | exact pm_shl_in _ _ | exact pm_cmp_in _ _ | exact pm_b8_in _ | (unfold pm_inI; split <;> omega)) (by first | (unfold pm_inI; omega) | exact pm_and_in _ _ | exact pm_shr_in _ _ | exact pm_or_in _ _ | exact pm_xor_in _ _ | exact pm_shl_in _ _ | exact pm_cmp_in _ _ | exact pm_b8_in _ | (unfold pm_inI; split <;> omega)) (fun h3 => ?_) (fun h3 => ?_)
            · replace h3 : ¬ (e.2.2.1 : Int) = (g : Int) := h3
              omega
            · replace h3 : ¬ (¬ (e.2.2.1 : Int) = (g : Int)) := h3
              refine g_iload_n lk_113_37 rfl ?_
              refine g_aload_n lk_113_38 rfl ?_
              refine g_getfield lk_113_39 rfl (lay.on (by decide) rfl) (v := ((73 : Nat) : Int)) (lay.rf rfl) ?_
              refine g_iload lk_113_42 rfl ?_
              refine m_iaload (u := []) (M := N) lk_113_44 (lay.ay (by decide) rfl) (by omega) (j := i) (by omega) (v := (e.2.2.2.1 : Int)) rd4 ?_
              refine g_aload_n lk_113_45 rfl ?_
              refine g_aload_n lk_113_46 rfl ?_
              refine g_getfield lk_113_47 rfl (lay.on (by decide) rfl) (v := ((70 : Nat) : Int)) (lay.rf rfl) ?_
              refine g_iload lk_113_50 rfl ?_
              refine m_iaload (u := []) (M := N) lk_113_52 (lay.ay (by decide) rfl) (by omega) (j := i) (by omega) (v := (e.1 : Int)) rd1 ?_
              refine g_aload_n lk_113_53 rfl ?_
              refine g_getfield lk_113_54 rfl (lay.on (by decide) rfl) (v := ((71 : Nat) : Int)) (lay.rf rfl) ?_
              refine g_iload lk_113_57 rfl ?_
              refine m_iaload (u := []) (M := N) lk_113_59 (lay.ay (by decide) rfl) (by omega) (j := i) (by omega) (v := (e.2.1 : Int)) rd2 ?_
              refine g_virtual (p := 98) (Qc := _) lk_113_60 rfl (Nat.le_of_ble_eq_true rfl) rfl rfl (lay.on (by decide) rfl) (Nat.le_of_ble_eq_true rfl) (Nat.le_of_ble_eq_true rfl) (by omega) (by omega) (wo) ?_
              rintro _ K1 ⟨rfl, lay1, hM1, s2, w2, hA2, hB2, ss, ww, sw, gg, g6⟩
              show Wp _ 113 63 [(2, ((65 : Nat) : Int)), (0, (g : Int)), (2, ((98 : Nat) : Int)), (0, (a : Int)), (0, (i : Int))] [(0, (bw : Int)), (0, (e.2.2.2.1 : Int)), (0, (a : Int))] K1 _ _ _
              refine g_iadd lk_113_63 ?_
              refine g_mmax lk_113_64 (by first | (unfold pm_inI; omega) | exact pm_and_in _ _ | exact pm_shr_in _ _ | exact pm_or_in _ _ | exact pm_xor_in _ _ | exact pm_shl_in _ _ | exact pm_cmp_in _ _ | exact pm_b8_in _ | (unfold pm_inI; split <;> omega)) (by first | (unfold pm_inI; omega) | exact pm_and_in _ _ | exact pm_shr_in _ _ | exact pm_or_in _ _ | exact pm_xor_in _ _ | exact pm_shl_in _ _ | exact pm_cmp_in _ _ | exact pm_b8_in _ | (unfold pm_inI; split <;> omega)) (Nat.le_of_ble_eq_true rfl) ?_
              refine g_istore_n (ls' := [(2, ((65 : Nat) : Int)), (0, (g : Int)), (2, ((98 : Nat) : Int)), (0, (max (a : Int) ((e.2.2.2.1 : Int) + (bw : Int)))), (0, (i : Int))]) lk_113_67 rfl rfl ?_
              refine g_goto (t := 103) lk_113_68 rfl ?_
              refine g_iinc (ls' := [(2, ((65 : Nat) : Int)), (0, (g : Int)), (2, ((98 : Nat) : Int)), (0, (max (a : Int) ((e.2.2.2.1 : Int) + (bw : Int)))), (0, ((i : Int) + 1))]) lk_113_103 rfl rfl rfl ?_
              refine g_goto (t := 5) lk_113_106 rfl ?_
              refine go _ _ _ _ s2 1 w2 1 (by rw [fi]; omega) lay1 hM1 hA2 hB2 (fun _ => rfl) (fun _ => rfl) (fun _ => rfl) ?_ ?_ sw (k7.tr2 gg (fun b hb => ?_)) (by rw [g6]; exact k8) (Or.inl rfl)
              · have := k7.1; rcases ss with z | z; rw [z]; exact k4; exact Or.inr (by omega)
              · have := k7.1; rcases ww with z | z; rw [z]; exact k5; exact Or.inr (by omega)
              · simp only [List.mem_cons, List.not_mem_nil, or_false] at hb ⊢
                rcases hb with z | z | z | z
                · exact Or.inl (Or.inl z)
                · rcases k4 with y | y; exact Or.inl (Or.inr (Or.inl (by omega))); exact Or.inr (by omega)
                · exact Or.inl (Or.inr (Or.inr (Or.inl z)))
                · rcases k5 with y | y; exact Or.inl (Or.inr (Or.inr (Or.inr (by omega)))); exact Or.inr (by omega)
      · rw [if_neg q1] at fi
        by_cases q3 : (ndA L i).1 = 0
        · rw [if_pos ⟨q3, q0⟩] at iu
          clear k9
          by_cases q4 : e.2.2.1 < g
          · rw [if_pos ⟨q3, q4⟩] at fi
            refine g_iload lk_113_5 rfl ?_
            refine g_aload_n lk_113_7 rfl ?_
            refine g_getfield lk_113_8 rfl (lay.on (by decide) rfl) (v := ((66 : Nat) : Int)) (lay.rf rfl) ?_
            refine m_getfield (u := []) (M := N) lk_113_11 rfl (lay.on (by decide) rfl) (v := (l : Int)) hct ?_
            refine g_icmp (t := 109) lk_113_14 rfl (by first | (unfold pm_inI; omega) | exact pm_and_in _ _ | exact pm_shr_in _ _ | exact pm_or_in _ _ | exact pm_xor_in _ _ | exact pm_shl_in _ _ | exact pm_cmp_in _ _ | exact pm_b8_in _ | (unfold pm_inI; split <;> omega)) (by first | (unfold pm_inI; omega) | exact pm_and_in _ _ | exact pm_shr_in _ _ | exact pm_or_in _ _ | exact pm_xor_in _ _ | exact pm_shl_in _ _ | exact pm_cmp_in _ _ | exact pm_b8_in _ | (unfold pm_inI; split <;> omega)) (fun h1 => ?_) (fun h1 => ?_)
            · replace h1 : (l : Int) ≤ (i : Int) := h1
              omega
            · replace h1 : ¬ ((l : Int) ≤ (i : Int)) := h1
              refine g_aload_n lk_113_17 rfl ?_
              refine g_iload lk_113_18 rfl ?_
              refine g_virtual (p := 65) (Qc := _) lk_113_20 rfl (Nat.le_of_ble_eq_true rfl) rfl rfl (lay.on (by decide) rfl) (Nat.le_of_ble_eq_true rfl) (Nat.le_of_ble_eq_true rfl) (Nat.zero_le _) (Nat.zero_le _) (ii) ?_
              rintro _ N2 ⟨rfl, hN2⟩
              rw [hN2]
              show Wp _ 113 23 [(2, ((65 : Nat) : Int)), (0, (g : Int)), (2, ((98 : Nat) : Int)), (0, (a : Int)), (0, (i : Int))] [(0, 0)] N _ _ _
              refine g_if (t := 71) lk_113_23 rfl (by first | (unfold pm_inI; omega) | exact pm_and_in _ _ | exact pm_shr_in _ _ | exact pm_or_in _ _ | exact pm_xor_in _ _ | exact pm_shl_in _ _ | exact pm_cmp_in _ _ | exact pm_b8_in _ | (unfold pm_inI; split <;> omega)) (fun h => absurd h (show ¬ (¬ (0 : Int) = (0 : Int)) by omega)) (fun _ => ?_)
              refine g_aload_n lk_113_26 rfl ?_
              refine g_getfield lk_113_27 rfl (lay.on (by decide) rfl) (v := ((72 : Nat) : Int)) (lay.rf rfl) ?_
              refine g_iload lk_113_30 rfl ?_
              refine m_iaload (u := []) (M := N) lk_113_32 (lay.ay (by decide) rfl) (by omega) (j := i) (by omega) (v := (e.2.2.1 : Int)) rd3 ?_
              refine g_iload_n lk_113_33 rfl ?_
              refine g_icmp (t := 71) lk_113_34 rfl (by first | (unfold pm_inI; omega) | exact pm_and_in _ _ | exact pm_shr_in _ _ | exact pm_or_in _ _ | exact pm_xor_in _ _ | exact pm_shl_in _ _ | exact pm_cmp_in _ _ | exact pm_b8_in _ | (unfold pm_inI; split <;> omega)) (by first | (unfold pm_inI; omega) | exact pm_and_in _ _ | exact pm_shr_in _ _ | exact pm_or_in _ _ | exact pm_xor_in _ _ | exact pm_shl_in _ _ | exact pm_cmp_in _ _ | exact pm_b8_in _ | (unfold pm_inI; split <;> omega)) (fun h3 => ?_) (fun h3 => ?_)
              · replace h3 : ¬ (e.2.2.1 : Int) = (g : Int) := h3
                refine g_aload_n lk_113_71 rfl ?_
                refine g_iload lk_113_72 rfl ?_
                refine g_virtual (p := 65) (Qc := _) lk_113_74 rfl (Nat.le_of_ble_eq_true rfl) rfl rfl (lay.on (by decide) rfl) (Nat.le_of_ble_eq_true rfl) (Nat.le_of_ble_eq_true rfl) (Nat.zero_le _) (Nat.zero_le _) (iu) ?_
                rintro _ N4 ⟨rfl, hN4⟩
                rw [hN4]
                show Wp _ 113 77 [(2, ((65 : Nat) : Int)), (0, (g : Int)), (2, ((98 : Nat) : Int)), (0, (a : Int)), (0, (i : Int))] [(0, 1)] N _ _ _
                refine g_if (t := 103) lk_113_77 rfl (by first | (unfold pm_inI; omega) | exact pm_and_in _ _ | exact pm_shr_in _ _ | exact pm_or_in _ _ | exact pm_xor_in _ _ | exact pm_shl_in _ _ | exact pm_cmp_in _ _ | exact pm_b8_in _ | (unfold pm_inI; split <;> omega)) (fun h => absurd h (show ¬ ((1 : Int) = (0 : Int)) by omega)) (fun _ => ?_)
                refine g_aload_n lk_113_80 rfl ?_
                refine g_getfield lk_113_81 rfl (lay.on (by decide) rfl) (v := ((72 : Nat) : Int)) (lay.rf rfl) ?_
                refine g_iload lk_113_84 rfl ?_
                refine m_iaload (u := []) (M := N) lk_113_86 (lay.ay (by decide) rfl) (by omega) (j := i) (by omega) (v := (e.2.2.1 : Int)) rd3 ?_
                refine g_iload_n lk_113_87 rfl ?_
                refine g_icmp (t := 103) lk_113_88 rfl (by first | (unfold pm_inI; omega) | exact pm_and_in _ _ | exact pm_shr_in _ _ | exact pm_or_in _ _ | exact pm_xor_in _ _ | exact pm_shl_in _ _ | exact pm_cmp_in _ _ | exact pm_b8_in _ | (unfold pm_inI; split <;> omega)) (by first | (unfold pm_inI; omega) | exact pm_and_in _ _ | exact pm_shr_in _ _ | exact pm_or_in _ _ | exact pm_xor_in _ _ | exact pm_shl_in _ _ | exact pm_cmp_in _ _ | exact pm_b8_in _ | (unfold pm_inI; split <;> omega)) (fun h5 => ?_) (fun h5 => ?_)
                · replace h5 : (g : Int) ≤ (e.2.2.1 : Int) := h5
                  refine g_iinc (ls' := [(2, ((65 : Nat) : Int)), (0, (g : Int)), (2, ((98 : Nat) : Int)), (0, (a : Int)), (0, ((i : Int) + 1))]) lk_113_103 rfl rfl rfl ?_
                  refine g_goto (t := 5) lk_113_106 rfl ?_
                  omega
                · replace h5 : ¬ ((g : Int) ≤ (e.2.2.1 : Int)) := h5
                  refine g_iload_n lk_113_91 rfl ?_
                  refine g_aload_n lk_113_92 rfl ?_
                  refine g_getfield lk_113_93 rfl (lay.on (by decide) rfl) (v := ((73 : Nat) : Int)) (lay.rf rfl) ?_
                  refine g_iload lk_113_96 rfl ?_
                  refine m_iaload (u := []) (M := N) lk_113_98 (lay.ay (by decide) rfl) (by omega) (j := i) (by omega) (v := (e.2.2.2.1 : Int)) rd4 ?_
                  refine g_mmax lk_113_99 (by first | (unfold pm_inI; omega) | exact pm_and_in _ _ | exact pm_shr_in _ _ | exact pm_or_in _ _ | exact pm_xor_in _ _ | exact pm_shl_in _ _ | exact pm_cmp_in _ _ | exact pm_b8_in _ | (unfold pm_inI; split <;> omega)) (by first | (unfold pm_inI; omega) | exact pm_and_in _ _ | exact pm_shr_in _ _ | exact pm_or_in _ _ | exact pm_xor_in _ _ | exact pm_shl_in _ _ | exact pm_cmp_in _ _ | exact pm_b8_in _ | (unfold pm_inI; split <;> omega)) (Nat.le_of_ble_eq_true rfl) ?_
                  refine g_istore_n (ls' := [(2, ((65 : Nat) : Int)), (0, (g : Int)), (2, ((98 : Nat) : Int)), (0, (max (a : Int) (e.2.2.2.1 : Int))), (0, (i : Int))]) lk_113_102 rfl rfl ?_
                  refine g_iinc (ls' := [(2, ((65 : Nat) : Int)), (0, (g : Int)), (2, ((98 : Nat) : Int)), (0, (max (a : Int) (e.2.2.2.1 : Int))), (0, ((i : Int) + 1))]) lk_113_103 rfl rfl rfl ?_
                  refine g_goto (t := 5) lk_113_106 rfl ?_
                  exact same _ (by rw [fi]; omega)
              · replace h3 : ¬ (¬ (e.2.2.1 : Int) = (g : Int)) := h3
                omega
          · rw [if_neg (fun z => q4 z.2)] at fi
            refine g_iload lk_113_5 rfl ?_
            refine g_aload_n lk_113_7 rfl ?_
            refine g_getfield lk_113_8 rfl (lay.on (by decide) rfl) (v := ((66 : Nat) : Int)) (lay.rf rfl) ?_
            refine m_getfield (u := []) (M := N) lk_113_11 rfl (lay.on (by decide) rfl) (v := (l : Int)) hct ?_
            refine g_icmp (t := 109) lk_113_14 rfl (by first | (unfold pm_inI; omega) | exact pm_and_in _ _ | exact pm_shr_in _ _ | exact pm_or_in _ _ | exact pm_xor_in _ _ | exact pm_shl_in _ _ | exact pm_cmp_in _ _ | exact pm_b8_in _ | (unfold pm_inI; split <;> omega)) (by first | (unfold pm_inI; omega) | exact pm_and_in _ _ | exact pm_shr_in _ _ | exact pm_or_in _ _ | exact pm_xor_in _ _ | exact pm_shl_in _ _ | exact pm_cmp_in _ _ | exact pm_b8_in _ | (unfold pm_inI; split <;> omega)) (fun h1 => ?_) (fun h1 => ?_)
            · replace h1 : (l : Int) ≤ (i : Int) := h1
              omega
            · replace h1 : ¬ ((l : Int) ≤ (i : Int)) := h1
              refine g_aload_n lk_113_17 rfl ?_
              refine g_iload lk_113_18 rfl ?_
              refine g_virtual (p := 65) (Qc := _) lk_113_20 rfl (Nat.le_of_ble_eq_true rfl) rfl rfl (lay.on (by decide) rfl) (Nat.le_of_ble_eq_true rfl) (Nat.le_of_ble_eq_true rfl) (Nat.zero_le _) (Nat.zero_le _) (ii) ?_
              rintro _ N2 ⟨rfl, hN2⟩
              rw [hN2]
              show Wp _ 113 23 [(2, ((65 : Nat) : Int)), (0, (g : Int)), (2, ((98 : Nat) : Int)), (0, (a : Int)), (0, (i : Int))] [(0, 0)] N _ _ _
              refine g_if (t := 71) lk_113_23 rfl (by first | (unfold pm_inI; omega) | exact pm_and_in _ _ | exact pm_shr_in _ _ | exact pm_or_in _ _ | exact pm_xor_in _ _ | exact pm_shl_in _ _ | exact pm_cmp_in _ _ | exact pm_b8_in _ | (unfold pm_inI; split <;> omega)) (fun h => absurd h (show ¬ (¬ (0 : Int) = (0 : Int)) by omega)) (fun _ => ?_)
              refine g_aload_n lk_113_26 rfl ?_
              refine g_getfield lk_113_27 rfl (lay.on (by decide) rfl) (v := ((72 : Nat) : Int)) (lay.rf rfl) ?_
              refine g_iload lk_113_30 rfl ?_
              refine m_iaload (u := []) (M := N) lk_113_32 (lay.ay (by decide) rfl) (by omega) (j := i) (by omega) (v := (e.2.2.1 : Int)) rd3 ?_
              refine g_iload_n lk_113_33 rfl ?_
              refine g_icmp (t := 71) lk_113_34 rfl (by first | (unfold pm_inI; omega) | exact pm_and_in _ _ | exact pm_shr_in _ _ | exact pm_or_in _ _ | exact pm_xor_in _ _ | exact pm_shl_in _ _ | exact pm_cmp_in _ _ | exact pm_b8_in _ | (unfold pm_inI; split <;> omega)) (by first | (unfold pm_inI; omega) | exact pm_and_in _ _ | exact pm_shr_in _ _ | exact pm_or_in _ _ | exact pm_xor_in _ _ | exact pm_shl_in _ _ | exact pm_cmp_in _ _ | exact pm_b8_in _ | (unfold pm_inI; split <;> omega)) (fun h3 => ?_) (fun h3 => ?_)
              · replace h3 : ¬ (e.2.2.1 : Int) = (g : Int) := h3
                refine g_aload_n lk_113_71 rfl ?_
                refine g_iload lk_113_72 rfl ?_
                refine g_virtual (p := 65) (Qc := _) lk_113_74 rfl (Nat.le_of_ble_eq_true rfl) rfl rfl (lay.on (by decide) rfl) (Nat.le_of_ble_eq_true rfl) (Nat.le_of_ble_eq_true rfl) (Nat.zero_le _) (Nat.zero_le _) (iu) ?_
                rintro _ N4 ⟨rfl, hN4⟩
                rw [hN4]
                show Wp _ 113 77 [(2, ((65 : Nat) : Int)), (0, (g : Int)), (2, ((98 : Nat) : Int)), (0, (a : Int)), (0, (i : Int))] [(0, 1)] N _ _ _
                refine g_if (t := 103) lk_113_77 rfl (by first | (unfold pm_inI; omega) | exact pm_and_in _ _ | exact pm_shr_in _ _ | exact pm_or_in _ _ | exact pm_xor_in _ _ | exact pm_shl_in _ _ | exact pm_cmp_in _ _ | exact pm_b8_in _ | (unfold pm_inI; split <;> omega)) (fun h => absurd h (show ¬ ((1 : Int) = (0 : Int)) by omega)) (fun _ => ?_)
                refine g_aload_n lk_113_80 rfl ?_
                refine g_getfield lk_113_81 rfl (lay.on (by decide) rfl) (v := ((72 : Nat) : Int)) (lay.rf rfl) ?_
                refine g_iload lk_113_84 rfl ?_
                refine m_iaload (u := []) (M := N) lk_113_86 (lay.ay (by decide) rfl) (by omega) (j := i) (by omega) (v := (e.2.2.1 : Int)) rd3 ?_
                refine g_iload_n lk_113_87 rfl ?_
                refine g_icmp (t := 103) lk_113_88 rfl (by first | (unfold pm_inI; omega) | exact pm_and_in _ _ | exact pm_shr_in _ _ | exact pm_or_in _ _ | exact pm_xor_in _ _ | exact pm_shl_in _ _ | exact pm_cmp_in _ _ | exact pm_b8_in _ | (unfold pm_inI; split <;> omega)) (by first | (unfold pm_inI; omega) | exact pm_and_in _ _ | exact pm_shr_in _ _ | exact pm_or_in _ _ | exact pm_xor_in _ _ | exact pm_shl_in _ _ | exact pm_cmp_in _ _ | exact pm_b8_in _ | (unfold pm_inI; split <;> omega)) (fun h5 => ?_) (fun h5 => ?_)
                · replace h5 : (g : Int) ≤ (e.2.2.1 : Int) := h5
                  refine g_iinc (ls' := [(2, ((65 : Nat) : Int)), (0, (g : Int)), (2, ((98 : Nat) : Int)), (0, (a : Int)), (0, ((i : Int) + 1))]) lk_113_103 rfl rfl rfl ?_
                  refine g_goto (t := 5) lk_113_106 rfl ?_
                  exact same _ (by rw [fi]; omega)
                · replace h5 : ¬ ((g : Int) ≤ (e.2.2.1 : Int)) := h5
                  refine g_iload_n lk_113_91 rfl ?_
                  refine g_aload_n lk_113_92 rfl ?_
                  refine g_getfield lk_113_93 rfl (lay.on (by decide) rfl) (v := ((73 : Nat) : Int)) (lay.rf rfl) ?_
                  refine g_iload lk_113_96 rfl ?_
                  refine m_iaload (u := []) (M := N) lk_113_98 (lay.ay (by decide) rfl) (by omega) (j := i) (by omega) (v := (e.2.2.2.1 : Int)) rd4 ?_
                  refine g_mmax lk_113_99 (by first | (unfold pm_inI; omega) | exact pm_and_in _ _ | exact pm_shr_in _ _ | exact pm_or_in _ _ | exact pm_xor_in _ _ | exact pm_shl_in _ _ | exact pm_cmp_in _ _ | exact pm_b8_in _ | (unfold pm_inI; split <;> omega)) (by first | (unfold pm_inI; omega) | exact pm_and_in _ _ | exact pm_shr_in _ _ | exact pm_or_in _ _ | exact pm_xor_in _ _ | exact pm_shl_in _ _ | exact pm_cmp_in _ _ | exact pm_b8_in _ | (unfold pm_inI; split <;> omega)) (Nat.le_of_ble_eq_true rfl) ?_
                  refine g_istore_n (ls' := [(2, ((65 : Nat) : Int)), (0, (g : Int)), (2, ((98 : Nat) : Int)), (0, (max (a : Int) (e.2.2.2.1 : Int))), (0, (i : Int))]) lk_113_102 rfl rfl ?_
                  refine g_iinc (ls' := [(2, ((65 : Nat) : Int)), (0, (g : Int)), (2, ((98 : Nat) : Int)), (0, (max (a : Int) (e.2.2.2.1 : Int))), (0, ((i : Int) + 1))]) lk_113_103 rfl rfl rfl ?_
                  refine g_goto (t := 5) lk_113_106 rfl ?_
                  omega
              · replace h3 : ¬ (¬ (e.2.2.1 : Int) = (g : Int)) := h3
                omega
        · rw [if_neg (fun z => q3 z.1)] at iu
          rw [if_neg (fun z => q3 z.1)] at fi
          clear k9
          refine g_iload lk_113_5 rfl ?_
          refine g_aload_n lk_113_7 rfl ?_
          refine g_getfield lk_113_8 rfl (lay.on (by decide) rfl) (v := ((66 : Nat) : Int)) (lay.rf rfl) ?_
          refine m_getfield (u := []) (M := N) lk_113_11 rfl (lay.on (by decide) rfl) (v := (l : Int)) hct ?_
          refine g_icmp (t := 109) lk_113_14 rfl (by first | (unfold pm_inI; omega) | exact pm_and_in _ _ | exact pm_shr_in _ _ | exact pm_or_in _ _ | exact pm_xor_in _ _ | exact pm_shl_in _ _ | exact pm_cmp_in _ _ | exact pm_b8_in _ | (unfold pm_inI; split <;> omega)) (by first | (unfold pm_inI; omega) | exact pm_and_in _ _ | exact pm_shr_in _ _ | exact pm_or_in _ _ | exact pm_xor_in _ _ | exact pm_shl_in _ _ | exact pm_cmp_in _ _ | exact pm_b8_in _ | (unfold pm_inI; split <;> omega)) (fun h1 => ?_) (fun h1 => ?_)
          · replace h1 : (l : Int) ≤ (i : Int) := h1
            omega
          · replace h1 : ¬ ((l : Int) ≤ (i : Int)) := h1
            refine g_aload_n lk_113_17 rfl ?_
            refine g_iload lk_113_18 rfl ?_
            refine g_virtual (p := 65) (Qc := _) lk_113_20 rfl (Nat.le_of_ble_eq_true rfl) rfl rfl (lay.on (by decide) rfl) (Nat.le_of_ble_eq_true rfl) (Nat.le_of_ble_eq_true rfl) (Nat.zero_le _) (Nat.zero_le _) (ii) ?_
            rintro _ N2 ⟨rfl, hN2⟩
            rw [hN2]
            show Wp _ 113 23 [(2, ((65 : Nat) : Int)), (0, (g : Int)), (2, ((98 : Nat) : Int)), (0, (a : Int)), (0, (i : Int))] [(0, 0)] N _ _ _
            refine g_if (t := 71) lk_113_23 rfl (by first | (unfold pm_inI; omega) | exact pm_and_in _ _ | exact pm_shr_in _ _ | exact pm_or_in _ _ | exact pm_xor_in _ _ | exact pm_shl_in _ _ | exact pm_cmp_in _ _ | exact pm_b8_in _ | (unfold pm_inI; split <;> omega)) (fun h => absurd h (show ¬ (¬ (0 : Int) = (0 : Int)) by omega)) (fun _ => ?_)
            refine g_aload_n lk_113_26 rfl ?_
            refine g_getfield lk_113_27 rfl (lay.on (by decide) rfl) (v := ((72 : Nat) : Int)) (lay.rf rfl) ?_
            refine g_iload lk_113_30 rfl ?_
            refine m_iaload (u := []) (M := N) lk_113_32 (lay.ay (by decide) rfl) (by omega) (j := i) (by omega) (v := (e.2.2.1 : Int)) rd3 ?_
            refine g_iload_n lk_113_33 rfl ?_
            refine g_icmp (t := 71) lk_113_34 rfl (by first | (unfold pm_inI; omega) | exact pm_and_in _ _ | exact pm_shr_in _ _ | exact pm_or_in _ _ | exact pm_xor_in _ _ | exact pm_shl_in _ _ | exact pm_cmp_in _ _ | exact pm_b8_in _ | (unfold pm_inI; split <;> omega)) (by first | (unfold pm_inI; omega) | exact pm_and_in _ _ | exact pm_shr_in _ _ | exact pm_or_in _ _ | exact pm_xor_in _ _ | exact pm_shl_in _ _ | exact pm_cmp_in _ _ | exact pm_b8_in _ | (unfold pm_inI; split <;> omega)) (fun h3 => ?_) (fun h3 => ?_)
            · replace h3 : ¬ (e.2.2.1 : Int) = (g : Int) := h3
              refine g_aload_n lk_113_71 rfl ?_
              refine g_iload lk_113_72 rfl ?_
              refine g_virtual (p := 65) (Qc := _) lk_113_74 rfl (Nat.le_of_ble_eq_true rfl) rfl rfl (lay.on (by decide) rfl) (Nat.le_of_ble_eq_true rfl) (Nat.le_of_ble_eq_true rfl) (Nat.zero_le _) (Nat.zero_le _) (iu) ?_
              rintro _ N4 ⟨rfl, hN4⟩
              rw [hN4]
              show Wp _ 113 77 [(2, ((65 : Nat) : Int)), (0, (g : Int)), (2, ((98 : Nat) : Int)), (0, (a : Int)), (0, (i : Int))] [(0, 0)] N _ _ _
              refine g_if (t := 103) lk_113_77 rfl (by first | (unfold pm_inI; omega) | exact pm_and_in _ _ | exact pm_shr_in _ _ | exact pm_or_in _ _ | exact pm_xor_in _ _ | exact pm_shl_in _ _ | exact pm_cmp_in _ _ | exact pm_b8_in _ | (unfold pm_inI; split <;> omega)) (fun _ => ?_) (fun h => absurd (show (0 : Int) = (0 : Int) by omega) h)
              refine g_iinc (ls' := [(2, ((65 : Nat) : Int)), (0, (g : Int)), (2, ((98 : Nat) : Int)), (0, (a : Int)), (0, ((i : Int) + 1))]) lk_113_103 rfl rfl rfl ?_
              refine g_goto (t := 5) lk_113_106 rfl ?_
              exact same _ (by rw [fi]; omega)
            · replace h3 : ¬ (¬ (e.2.2.1 : Int) = (g : Int)) := h3
              omega
  show Wp (d + 5) 113 0 [(2, ((65 : Nat) : Int)), (0, (g : Int)), (2, ((98 : Nat) : Int)), (9, 0), (9, 0)] [] M mc ms Q
  refine g_iconst lk_113_0 ?_
  refine g_istore_n (ls' := [(2, ((65 : Nat) : Int)), (0, (g : Int)), (2, ((98 : Nat) : Int)), (0, 0), (9, 0)]) lk_113_1 rfl rfl ?_
  refine g_iconst lk_113_2 ?_
  refine g_istore (ls' := [(2, ((65 : Nat) : Int)), (0, (g : Int)), (2, ((98 : Nat) : Int)), (0, 0), (0, 0)]) lk_113_3 rfl rfl ?_
  exact loop l 0 M mc ms s fa w f (by omega) lay0 hM0 hA0 hB0 hff (fun z => z) (fun z => z) (Or.inl rfl) (Or.inl rfl) hsw (Gr.refl _ _) rfl (Or.inr ⟨b1, b2⟩)
set_option maxHeartbeats 8000000 in
theorem c_Told_graftedCost2 {d mc ms : Nat} {M : pm_M} (lay0 : Lay M) {T : Tab} (hT : TabOK T) (hM0 : TbAt M 24 T) {s fa w f : Nat} (hA0 : CA M T s fa) (hB0 : CB M T 0 98 w f) (hff : f = 1 → fa = 1) (hsw : s ≠ w) (b1 : 2 ≤ mc) (b2 : 8192 ≤ ms) {L : List Nd} {p dp : Nat → Nat} (hX : TdAt M 76 T L p dp) {g : Nat} (hg : g ≤ 9) :
    pm_E (d + 5) 113 [(2, ((76 : Nat) : Int)), (0, (g : Int)), (2, ((98 : Nat) : Int))] M mc ms (fun ρ M' => ρ = some (0, (x2 T (gCel T L p g) : Int)) ∧ Wk M M' T s fa w f) := by
  obtain ⟨Q, hQ⟩ : ∃ Q : pm_Q, Q = (fun ρ M' => ρ = some (0, (x2 T (gCel T L p g) : Int)) ∧ Wk M M' T s fa w f) := ⟨_, rfl⟩
  rw [← hQ]
  obtain ⟨hD, hp, hx⟩ := hX.1
  have l31 := hD.2.1
  have os := hA0.1
  have ow := hB0.1
  have m0 := lay0.1
  have fin := x2_graft hT hD hp g
  obtain ⟨fn, hfn⟩ : ∃ q : Nat → Nat, q = gNod T L p g := ⟨_, rfl⟩
  rw [← hfn] at fin
  obtain ⟨l, hl⟩ : ∃ l, l = L.length := ⟨_, rfl⟩
  rw [← hl] at l31 fin
  have fb : ∀ i, i < l → fn i ≤ 11800 := fun i hi => by
    obtain ⟨c1, c2, c3, c4, _, _⟩ := CM_bd hT hD hp _ _ (Nat.lt_succ_self _) (show i < L.length by omega)
    have := (hx i (by omega)).1
    rw [hfn]
    unfold gNod
    by_cases q : idl (CM T L p i)
    · rw [if_pos q]; omega
    rw [if_neg q]
    have := BW_small hT 0 (rs := (CM T L p i).1) (cs := (CM T L p i).2.1) (by omega) c1 (by omega) c2
    split
    · omega
    · split <;> omega
  have loop : ∀ (n i : Nat) (N : pm_M) (cb sb' s' fa' w' f' : Nat), i + n = l → Lay N → TbAt N 24 T → CA N T s' fa' → CB N T 0 98 w' f' → (f' = 1 → fa' = 1) → (f = 1 → f' = 1) → (fa = 1 → fa' = 1) → (s' = s ∨ M.1 ≤ s') → (w' = w ∨ M.1 ≤ w') → s' ≠ w' → Gr [44, s, 98, w] M N → pm_ct N 98 6 = pm_ct M 98 6 → (f' = 1 ∨ 2 ≤ cb ∧ 8192 ≤ sb') → Wp (d + 5) 113 5 [(2, ((76 : Nat) : Int)), (0, (g : Int)), (2, ((98 : Nat) : Int)), (0, ((xm fn i : Nat) : Int)), (0, (i : Int))] [] N cb sb' Q := by
    intro n
    induction n with
    | zero =>
      intro i N cb sb' s' fa' w' f' hi lay hM hA hB k1 k2 k3 k4 k5 k6 k7 k8 k9
      have e : i = l := by omega
      have hct := (hX.gr k7 m0 (by omega) (by omega) (fun a x y => td_out os ow x y)).2.1
      rw [← hl, ← e] at hct
      rw [← e] at fin
      clear k9
      refine g_iload lk_113_5 rfl ?_
      refine g_aload_n lk_113_7 rfl ?_
      refine g_getfield lk_113_8 rfl (lay.on (by decide) rfl) (v := ((77 : Nat) : Int)) (lay.rf rfl) ?_
      refine m_getfield (u := []) (M := N) lk_113_11 rfl (lay.on (by decide) rfl) (v := (i : Int)) hct ?_
      refine g_icmp (t := 109) lk_113_14 rfl (by first | (unfold pm_inI; omega) | exact pm_and_in _ _ | exact pm_shr_in _ _ | exact pm_or_in _ _ | exact pm_xor_in _ _ | exact pm_shl_in _ _ | exact pm_cmp_in _ _ | exact pm_b8_in _ | (unfold pm_inI; split <;> omega)) (by first | (unfold pm_inI; omega) | exact pm_and_in _ _ | exact pm_shr_in _ _ | exact pm_or_in _ _ | exact pm_xor_in _ _ | exact pm_shl_in _ _ | exact pm_cmp_in _ _ | exact pm_b8_in _ | (unfold pm_inI; split <;> omega)) (fun h1 => ?_) (fun h1 => ?_)
      · replace h1 : (i : Int) ≤ (i : Int) := h1
        refine g_iload_n lk_113_109 rfl ?_
        refine g_ireturn lk_113_110 (fun h => absurd h (by decide)) ?_
        rw [hQ]
        exact ⟨by rw [fin], lay, hM, s', fa', w', f', hA, hB, k1, k2, k3, k4, k5, k6, k7, k8⟩
      · replace h1 : ¬ ((i : Int) ≤ (i : Int)) := h1
        omega
    | succ n ih =>
      intro i N cb sb' s' fa' w' f' hi lay hM hA hB k1 k2 k3 k4 k5 k6 k7 k8 k9
      have hk : i < L.length := by omega
      have tdN := hX.gr k7 m0 (by omega) (by omega) (fun a x y => td_out os ow x y)
      have iu := c_Told_isUsedLeaf2 (d := d + 3) (mc := 0) (ms := 0) lay hT tdN hk
      have ii := c_Told_isIdle2 (d := d + 4) (mc := 0) (ms := 0) lay hT tdN hk
      have hct := tdN.2.1
      rw [← hl] at hct
      obtain ⟨rd1, rd2, rd3, rd4, _⟩ := tdN.2.2.2 i hk
      obtain ⟨c1, c2, c3, c4, _, _⟩ := CM_bd hT hD hp _ _ (Nat.lt_succ_self _) hk
      have d8 := (hx i hk).1
      have fi : fn i = if idl (CM T L p i) then 0 else if (CM T L p i).2.2.1 = g then (CM T L p i).2.2.2.1 + BW T 0 (CM T L p i).1 (CM T L p i).2.1 else if (ndA L i).1 = 0 ∧ (CM T L p i).2.2.1 < g then (CM T L p i).2.2.2.1 else 0 := by rw [hfn]; rfl
      have x8 : xm fn i ≤ 11800 := xm_le (fun j hj => fb j (by omega))
      obtain ⟨a, ha⟩ : ∃ a, a = xm fn i := ⟨_, rfl⟩
      have go : ∀ (z : Int) (N : pm_M) (cb sb' s' fa' w' f' : Nat), z = ((max a (fn i) : Nat) : Int) → Lay N → TbAt N 24 T → CA N T s' fa' → CB N T 0 98 w' f' → (f' = 1 → fa' = 1) → (f = 1 → f' = 1) → (fa = 1 → fa' = 1) → (s' = s ∨ M.1 ≤ s') → (w' = w ∨ M.1 ≤ w') → s' ≠ w' → Gr [44, s, 98, w] M N → pm_ct N 98 6 = pm_ct M 98 6 → (f' = 1 ∨ 2 ≤ cb ∧ 8192 ≤ sb') → Wp (d + 5) 113 5 [(2, ((76 : Nat) : Int)), (0, (g : Int)), (2, ((98 : Nat) : Int)), (0, z), (0, (i : Int) + 1)] [] N cb sb' Q := fun z N cb sb' s' fa' w' f' hz q1 q2 q3 q4 q5 q6 q7 q8 q9 q10 q11 q12 q13 => by
        rw [hz, ha]; exact ih (i + 1) N cb sb' s' fa' w' f' (by omega) q1 q2 q3 q4 q5 q6 q7 q8 q9 q10 q11 q12 q13
      rw [← ha] at x8 ⊢
      obtain ⟨e, he⟩ : ∃ e, e = CM T L p i := ⟨_, rfl⟩
      rw [← he] at rd1 rd2 rd3 rd4 fi c1 c2 c3 c4 iu ii
      clear ih
      have same := fun z (hz : z = ((max a (fn i) : Nat) : Int)) => go z N cb sb' s' fa' w' f' hz lay hM hA hB k1 k2 k3 k4 k5 k6 k7 k8 k9
      by_cases q0 : idl e
      · rw [if_pos q0] at ii fi
        rw [if_neg (fun z => z.2 q0)] at iu
        clear k9
        refine g_iload lk_113_5 rfl ?_
        refine g_aload_n lk_113_7 rfl ?_
        refine g_getfield lk_113_8 rfl (lay.on (by decide) rfl) (v := ((77 : Nat) : Int)) (lay.rf rfl) ?_
        refine m_getfield (u := []) (M := N) lk_113_11 rfl (lay.on (by decide) rfl) (v := (l : Int)) hct ?_
        refine g_icmp (t := 109) lk_113_14 rfl (by first | (unfold pm_inI; omega) | exact pm_and_in _ _ | exact pm_shr_in _ _ | exact pm_or_in _ _ | exact pm_xor_in _ _ | exact pm_shl_in _ _ | exact pm_cmp_in _ _ | exact pm_b8_in _ | (unfold pm_inI; split <;> omega)) (by first | (unfold pm_inI; omega) | exact pm_and_in _ _ | exact pm_shr_in _ _ | exact pm_or_in _ _ | exact pm_xor_in _ _ | exact pm_shl_in _ _ | exact pm_cmp_in _ _ | exact pm_b8_in _ | (unfold pm_inI; split <;> omega)) (fun h1 => ?_) (fun h1 => ?_)
        · replace h1 : (l : Int) ≤ (i : Int) := h1
          omega
        · replace h1 : ¬ ((l : Int) ≤ (i : Int)) := h1
          refine g_aload_n lk_113_17 rfl ?_
          refine g_iload lk_113_18 rfl ?_
          refine g_virtual (p := 76) (Qc := _) lk_113_20 rfl (Nat.le_of_ble_eq_true rfl) rfl rfl (lay.on (by decide) rfl) (Nat.le_of_ble_eq_true rfl) (Nat.le_of_ble_eq_true rfl) (Nat.zero_le _) (Nat.zero_le _) (ii) ?_
          rintro _ N2 ⟨rfl, hN2⟩
          rw [hN2]
          show Wp _ 113 23 [(2, ((76 : Nat) : Int)), (0, (g : Int)), (2, ((98 : Nat) : Int)), (0, (a : Int)), (0, (i : Int))] [(0, 1)] N _ _ _
          refine g_if (t := 71) lk_113_23 rfl (by first | (unfold pm_inI; omega) | exact pm_and_in _ _ | exact pm_shr_in _ _ | exact pm_or_in _ _ | exact pm_xor_in _ _ | exact pm_shl_in _ _ | exact pm_cmp_in _ _ | exact pm_b8_in _ | (unfold pm_inI; split <;> omega)) (fun _ => ?_) (fun h => absurd (show ¬ (1 : Int) = (0 : Int) by omega) h)
          refine g_aload_n lk_113_71 rfl ?_
          refine g_iload lk_113_72 rfl ?_
          refine g_virtual (p := 76) (Qc := _) lk_113_74 rfl (Nat.le_of_ble_eq_true rfl) rfl rfl (lay.on (by decide) rfl) (Nat.le_of_ble_eq_true rfl) (Nat.le_of_ble_eq_true rfl) (Nat.zero_le _) (Nat.zero_le _) (iu) ?_
          rintro _ N3 ⟨rfl, hN3⟩
          rw [hN3]
          show Wp _ 113 77 [(2, ((76 : Nat) : Int)), (0, (g : Int)), (2, ((98 : Nat) : Int)), (0, (a : Int)), (0, (i : Int))] [(0, 0)] N _ _ _
          refine g_if (t := 103) lk_113_77 rfl (by first | (unfold pm_inI; omega) | exact pm_and_in _ _ | exact pm_shr_in _ _ | exact pm_or_in _ _ | exact pm_xor_in _ _ | exact pm_shl_in _ _ | exact pm_cmp_in _ _ | exact pm_b8_in _ | (unfold pm_inI; split <;> omega)) (fun _ => ?_) (fun h => absurd (show (0 : Int) = (0 : Int) by omega) h)
          refine g_iinc (ls' := [(2, ((76 : Nat) : Int)), (0, (g : Int)), (2, ((98 : Nat) : Int)), (0, (a : Int)), (0, ((i : Int) + 1))]) lk_113_103 rfl rfl rfl ?_
          refine g_goto (t := 5) lk_113_106 rfl ?_
          exact same _ (by rw [fi]; omega)
      rw [if_neg q0] at ii fi
      by_cases q1 : e.2.2.1 = g
      · rw [if_pos q1] at fi
        have bs := BW_small hT 0 (rs := e.1) (cs := e.2.1) (by omega) c1 (by omega) c2
        have e1 : 1 ≤ e.1 := by omega
        have e2 : 1 ≤ e.2.1 := by omega
        by_cases q2 : f' = 1
        · rw [q2] at hB
          have wo := c_Best_worthOf0s (d := d + 3) (mc := 0) (ms := 0) lay hT hM hB e1 c1 e2 c2
          obtain ⟨bw, hbw⟩ : ∃ b, b = BW T 0 e.1 e.2.1 := ⟨_, rfl⟩
          rw [← hbw] at wo fi bs
          clear k9
          refine g_iload lk_113_5 rfl ?_
          refine g_aload_n lk_113_7 rfl ?_
          refine g_getfield lk_113_8 rfl (lay.on (by decide) rfl) (v := ((77 : Nat) : Int)) (lay.rf rfl) ?_
          refine m_getfield (u := []) (M := N) lk_113_11 rfl (lay.on (by decide) rfl) (v := (l : Int)) hct ?_
          refine g_icmp (t := 109) lk_113_14 rfl (by first | (unfold pm_inI; omega) | exact pm_and_in _ _ | exact pm_shr_in _ _ | exact pm_or_in _ _ | exact pm_xor_in _ _ | exact pm_shl_in _ _ | exact pm_cmp_in _ _ | exact pm_b8_in _ | (unfold pm_inI; split <;> omega)) (by first | (unfold pm_inI; omega) | exact pm_and_in _ _ | exact pm_shr_in _ _ | exact pm_or_in _ _ | exact pm_xor_in _ _ | exact pm_shl_in _ _ | exact pm_cmp_in _ _ | exact pm_b8_in _ | (unfold pm_inI; split <;> omega)) (fun h1 => ?_) (fun h1 => ?_)
          · replace h1 : (l : Int) ≤ (i : Int) := h1
            omega
          · replace h1 : ¬ ((l : Int) ≤ (i : Int)) := h1
            refine g_aload_n lk_113_17 rfl ?_
            refine g_iload lk_113_18 rfl ?_
            refine g_virtual (p := 76) (Qc := _) lk_113_20 rfl (Nat.le_of_ble_eq_true rfl) rfl rfl (lay.on (by decide) rfl) (Nat.le_of_ble_eq_true rfl) (Nat.le_of_ble_eq_true rfl) (Nat.zero_le _) (Nat.zero_le _) (ii) ?_
            rintro _ N2 ⟨rfl, hN2⟩
            rw [hN2]
            show Wp _ 113 23 [(2, ((76 : Nat) : Int)), (0, (g : Int)), (2, ((98 : Nat) : Int)), (0, (a : Int)), (0, (i : Int))] [(0, 0)] N _ _ _
            refine g_if (t := 71) lk_113_23 rfl (by first | (unfold pm_inI; omega) | exact pm_and_in _ _ | exact pm_shr_in _ _ | exact pm_or_in _ _ | exact pm_xor_in _ _ | exact pm_shl_in _ _ | exact pm_cmp_in _ _ | exact pm_b8_in _ | (unfold pm_inI; split <;> omega)) (fun h => absurd h (show ¬ (¬ (0 : Int) = (0 : Int)) by omega)) (fun _ => ?_)
            refine g_aload_n lk_113_26 rfl ?_
            refine g_getfield lk_113_27 rfl (lay.on (by decide) rfl) (v := ((83 : Nat) : Int)) (lay.rf rfl) ?_
            refine g_iload lk_113_30 rfl ?_
            refine m_iaload (u := []) (M := N) lk_113_32 (lay.ay (by decide) rfl) (by omega) (j := i) (by omega) (v := (e.2.2.1 : Int)) rd3 ?_
            refine g_iload_n lk_113_33 rfl ?_
            refine g_icmp (t := 71) lk_113_34 rfl (by first | (unfold pm_inI; omega) | exact pm_and_in _ _ | exact pm_shr_in _ _ | exact pm_or_in _ _ | exact pm_xor_in _ _ | exact pm_shl_in _ _ | exact pm_cmp_in _ _ | exact pm_b8_in _ | (unfold pm_inI; split <;> omega)) (by first | (unfold pm_inI; omega) | exact pm_and_in _ _ | exact pm_shr_in _ _ | exact pm_or_in _ _ | exact pm_xor_in _ _ | exact pm_shl_in _ _ | exact pm_cmp_in _ _ | exact pm_b8_in _ | (unfold pm_inI; split <;> omega)) (fun h3 => ?_) (fun h3 => ?_)
            · replace h3 : ¬ (e.2.2.1 : Int) = (g : Int) := h3
              omega
            · replace h3 : ¬ (¬ (e.2.2.1 : Int) = (g : Int)) := h3
              refine g_iload_n lk_113_37 rfl ?_
              refine g_aload_n lk_113_38 rfl ?_
              refine g_getfield lk_113_39 rfl (lay.on (by decide) rfl) (v := ((84 : Nat) : Int)) (lay.rf rfl) ?_
              refine g_iload lk_113_42 rfl ?_
              refine m_iaload (u := []) (M := N) lk_113_44 (lay.ay (by decide) rfl) (by omega) (j := i) (by omega) (v := (e.2.2.2.1 : Int)) rd4 ?_
              refine g_aload_n lk_113_45 rfl ?_
              refine g_aload_n lk_113_46 rfl ?_
              refine g_getfield lk_113_47 rfl (lay.on (by decide) rfl) (v := ((81 : Nat) : Int)) (lay.rf rfl) ?_
              refine g_iload lk_113_50 rfl ?_
              refine m_iaload (u := []) (M := N) lk_113_52 (lay.ay (by decide) rfl) (by omega) (j := i) (by omega) (v := (e.1 : Int)) rd1 ?_
              refine g_aload_n lk_113_53 rfl ?_
              refine g_getfield lk_113_54 rfl (lay.on (by decide) rfl) (v := ((82 : Nat) : Int)) (lay.rf rfl) ?_
              refine g_iload lk_113_57 rfl ?_
              refine m_iaload (u := []) (M := N) lk_113_59 (lay.ay (by decide) rfl) (by omega) (j := i) (by omega) (v := (e.2.1 : Int)) rd2 ?_
              refine g_virtual (p := 98) (Qc := _) lk_113_60 rfl (Nat.le_of_ble_eq_true rfl) rfl rfl (lay.on (by decide) rfl) (Nat.le_of_ble_eq_true rfl) (Nat.le_of_ble_eq_true rfl) (Nat.zero_le _) (Nat.zero_le _) (wo) ?_
              rintro _ N4 ⟨rfl, hN4⟩
              rw [hN4]
              show Wp _ 113 63 [(2, ((76 : Nat) : Int)), (0, (g : Int)), (2, ((98 : Nat) : Int)), (0, (a : Int)), (0, (i : Int))] [(0, (bw : Int)), (0, (e.2.2.2.1 : Int)), (0, (a : Int))] N _ _ _
              refine g_iadd lk_113_63 ?_
              refine g_mmax lk_113_64 (by first | (unfold pm_inI; omega) | exact pm_and_in _ _ | exact pm_shr_in _ _ | exact pm_or_in _ _ | exact pm_xor_in _ _ | exact pm_shl_in _ _ | exact pm_cmp_in _ _ | exact pm_b8_in _ | (unfold pm_inI; split <;> omega)) (by first | (unfold pm_inI; omega) | exact pm_and_in _ _ | exact pm_shr_in _ _ | exact pm_or_in _ _ | exact pm_xor_in _ _ | exact pm_shl_in _ _ | exact pm_cmp_in _ _ | exact pm_b8_in _ | (unfold pm_inI; split <;> omega)) (Nat.le_of_ble_eq_true rfl) ?_
              refine g_istore_n (ls' := [(2, ((76 : Nat) : Int)), (0, (g : Int)), (2, ((98 : Nat) : Int)), (0, (max (a : Int) ((e.2.2.2.1 : Int) + (bw : Int)))), (0, (i : Int))]) lk_113_67 rfl rfl ?_
              refine g_goto (t := 103) lk_113_68 rfl ?_
              refine g_iinc (ls' := [(2, ((76 : Nat) : Int)), (0, (g : Int)), (2, ((98 : Nat) : Int)), (0, (max (a : Int) ((e.2.2.2.1 : Int) + (bw : Int)))), (0, ((i : Int) + 1))]) lk_113_103 rfl rfl rfl ?_
              refine g_goto (t := 5) lk_113_106 rfl ?_
              exact same _ (by rw [fi]; omega)
        · obtain ⟨k91, k92⟩ : 2 ≤ cb ∧ 8192 ≤ sb' := by rcases k9 with z | z; exact absurd z q2; exact z
          clear k9
          have os' := hA.1
          have ow' := hB.1
          obtain ⟨bw, hbw⟩ : ∃ b, b = BW T 0 e.1 e.2.1 := ⟨_, rfl⟩
          have wo := c_Best_worthOf0 (d := d) (mc := 2) (ms := 8192) lay hT hM hA hB k1 k6 (by omega) (by omega) e1 c1 e2 c2
          rw [← hbw] at wo fi bs
          refine g_iload lk_113_5 rfl ?_
          refine g_aload_n lk_113_7 rfl ?_
          refine g_getfield lk_113_8 rfl (lay.on (by decide) rfl) (v := ((77 : Nat) : Int)) (lay.rf rfl) ?_
          refine m_getfield (u := []) (M := N) lk_113_11 rfl (lay.on (by decide) rfl) (v := (l : Int)) hct ?_
          refine g_icmp (t := 109) lk_113_14 rfl (by first | (unfold pm_inI; omega) | exact pm_and_in _ _ | exact pm_shr_in _ _ | exact pm_or_in _ _ | exact pm_xor_in _ _ | exact pm_shl_in _ _ | exact pm_cmp_in _ _ | exact pm_b8_in _ | (unfold pm_inI; split <;> omega)) (by first | (unfold pm_inI; omega) | exact pm_and_in _ _ | exact pm_shr_in _ _ | exact pm_or_in _ _ | exact pm_xor_in _ _ | exact pm_shl_in _ _ | exact pm_cmp_in _ _ | exact pm_b8_in _ | (unfold pm_inI; split <;> omega)) (fun h1 => ?_) (fun h1 => ?_)
          · replace h1 : (l : Int) ≤ (i : Int) := h1
            omega
          · replace h1 : ¬ ((l : Int) ≤ (i : Int)) := h1
            refine g_aload_n lk_113_17 rfl ?_
            refine g_iload lk_113_18 rfl ?_
            refine g_virtual (p := 76) (Qc := _) lk_113_20 rfl (Nat.le_of_ble_eq_true rfl) rfl rfl (lay.on (by decide) rfl) (Nat.le_of_ble_eq_true rfl) (Nat.le_of_ble_eq_true rfl) (Nat.zero_le _) (Nat.zero_le _) (ii) ?_
            rintro _ N2 ⟨rfl, hN2⟩
            rw [hN2]
            show Wp _ 113 23 [(2, ((76 : Nat) : Int)), (0, (g : Int)), (2, ((98 : Nat) : Int)), (0, (a : Int)), (0, (i : Int))] [(0, 0)] N _ _ _
            refine g_if (t := 71) lk_113_23 rfl (by first | (unfold pm_inI; omega) | exact pm_and_in _ _ | exact pm_shr_in _ _ | exact pm_or_in _ _ | exact pm_xor_in _ _ | exact pm_shl_in _ _ | exact pm_cmp_in _ _ | exact pm_b8_in _ | (unfold pm_inI; split <;> omega)) (fun h => absurd h (show ¬ (¬ (0 : Int) = (0 : Int)) by omega)) (fun _ => ?_)
            refine g_aload_n lk_113_26 rfl ?_
            refine g_getfield lk_113_27 rfl (lay.on (by decide) rfl) (v := ((83 : Nat) : Int)) (lay.rf rfl) ?_
            refine g_iload lk_113_30 rfl ?_
            refine m_iaload (u := []) (M := N) lk_113_32 (lay.ay (by decide) rfl) (by omega) (j := i) (by omega) (v := (e.2.2.1 : Int)) rd3 ?_
            refine g_iload_n lk_113_33 rfl ?_
            refine g_icmp (t := 71) lk_113_34 rfl (by first | (unfold pm_inI; omega) | exact pm_and_in _ _ | exact pm_shr_in _ _ | exact pm_or_in _ _ | exact pm_xor_in _ _ | exact pm_shl_in _ _ | exact pm_cmp_in _ _ | exact pm_b8_in _ | (unfold pm_inI; split <;> omega)) (by first | (unfold pm_inI; omega) | exact pm_and_in _ _ | exact pm_shr_in _ _ | exact pm_or_in _ _ | exact pm_xor_in _ _ | exact pm_shl_in _ _ | exact pm_cmp_in _ _ | exact pm_b8_in _ | (unfold pm_inI; split <;> omega)) (fun h3 => ?_) (fun h3 => ?_)
            · replace h3 : ¬ (e.2.2.1 : Int) = (g : Int) := h3
              omega
            · replace h3 : ¬ (¬ (e.2.2.1 : Int) = (g : Int)) := h3
              refine g_iload_n lk_113_37 rfl ?_
              refine g_aload_n lk_113_38 rfl ?_
              refine g_getfield lk_113_39 rfl (lay.on (by decide) rfl) (v := ((84 : Nat) : Int)) (lay.rf rfl) ?_
              refine g_iload lk_113_42 rfl ?_
              refine m_iaload (u := []) (M := N) lk_113_44 (lay.ay (by decide) rfl) (by omega) (j := i) (by omega) (v := (e.2.2.2.1 : Int)) rd4 ?_
              refine g_aload_n lk_113_45 rfl ?_
              refine g_aload_n lk_113_46 rfl ?_
              refine g_getfield lk_113_47 rfl (lay.on (by decide) rfl) (v := ((81 : Nat) : Int)) (lay.rf rfl) ?_
              refine g_iload lk_113_50 rfl ?_
              refine m_iaload (u := []) (M := N) lk_113_52 (lay.ay (by decide) rfl) (by omega) (j := i) (by omega) (v := (e.1 : Int)) rd1 ?_
              refine g_aload_n lk_113_53 rfl ?_
              refine g_getfield lk_113_54 rfl (lay.on (by decide) rfl) (v := ((82 : Nat) : Int)) (lay.rf rfl) ?_
              refine g_iload lk_113_57 rfl ?_
              refine m_iaload (u := []) (M := N) lk_113_59 (lay.ay (by decide) rfl) (by omega) (j := i) (by omega) (v := (e.2.1 : Int)) rd2 ?_
              refine g_virtual (p := 98) (Qc := _) lk_113_60 rfl (Nat.le_of_ble_eq_true rfl) rfl rfl (lay.on (by decide) rfl) (Nat.le_of_ble_eq_true rfl) (Nat.le_of_ble_eq_true rfl) (by omega) (by omega) (wo) ?_
              rintro _ K1 ⟨rfl, lay1, hM1, s2, w2, hA2, hB2, ss, ww, sw, gg, g6⟩
              show Wp _ 113 63 [(2, ((76 : Nat) : Int)), (0, (g : Int)), (2, ((98 : Nat) : Int)), (0, (a : Int)), (0, (i : Int))] [(0, (bw : Int)), (0, (e.2.2.2.1 : Int)), (0, (a : Int))] K1 _ _ _
              refine g_iadd lk_113_63 ?_
              refine g_mmax lk_113_64 (by first | (unfold pm_inI; omega) | exact pm_and_in _ _ | exact pm_shr_in _ _ | exact pm_or_in _ _ | exact pm_xor_in _ _ | exact pm_shl_in _ _ | exact pm_cmp_in _ _ | exact pm_b8_in _ | (unfold pm_inI; split <;> omega)) (by first | (unfold pm_inI; omega) | exact pm_and_in _ _ | exact pm_shr_in _ _ | exact pm_or_in _ _ | exact pm_xor_in _ _ | exact pm_shl_in _ _ | exact pm_cmp_in _ _ | exact pm_b8_in _ | (unfold pm_inI; split <;> omega)) (Nat.le_of_ble_eq_true rfl) ?_
              refine g_istore_n (ls' := [(2, ((76 : Nat) : Int)), (0, (g : Int)), (2, ((98 : Nat) : Int)), (0, (max (a : Int) ((e.2.2.2.1 : Int) + (bw : Int)))), (0, (i : Int))]) lk_113_67 rfl rfl ?_
              refine g_goto (t := 103) lk_113_68 rfl ?_
              refine g_iinc (ls' := [(2, ((76 : Nat) : Int)), (0, (g : Int)), (2, ((98 : Nat) : Int)), (0, (max (a : Int) ((e.2.2.2.1 : Int) + (bw : Int)))), (0, ((i : Int) + 1))]) lk_113_103 rfl rfl rfl ?_
              refine g_goto (t := 5) lk_113_106 rfl ?_
              refine go _ _ _ _ s2 1 w2 1 (by rw [fi]; omega) lay1 hM1 hA2 hB2 (fun _ => rfl) (fun _ => rfl) (fun _ => rfl) ?_ ?_ sw (k7.tr2 gg (fun b hb => ?_)) (by rw [g6]; exact k8) (Or.inl rfl)
              · have := k7.1; rcases ss with z | z; rw [z]; exact k4; exact Or.inr (by omega)
              · have := k7.1; rcases ww with z | z; rw [z]; exact k5; exact Or.inr (by omega)
              · simp only [List.mem_cons, List.not_mem_nil, or_false] at hb ⊢
                rcases hb with z | z | z | z
                · exact Or.inl (Or.inl z)
                · rcases k4 with y | y; exact Or.inl (Or.inr (Or.inl (by omega))); exact Or.inr (by omega)
                · exact Or.inl (Or.inr (Or.inr (Or.inl z)))
                · rcases k5 with y | y; exact Or.inl (Or.inr (Or.inr (Or.inr (by omega)))); exact Or.inr (by omega)
      · rw [if_neg q1] at fi
        by_cases q3 : (ndA L i).1 = 0
        · rw [if_pos ⟨q3, q0⟩] at iu
          clear k9
          by_cases q4 : e.2.2.1 < g
          · rw [if_pos ⟨q3, q4⟩] at fi
            refine g_iload lk_113_5 rfl ?_
            refine g_aload_n lk_113_7 rfl ?_
            refine g_getfield lk_113_8 rfl (lay.on (by decide) rfl) (v := ((77 : Nat) : Int)) (lay.rf rfl) ?_
            refine m_getfield (u := []) (M := N) lk_113_11 rfl (lay.on (by decide) rfl) (v := (l : Int)) hct ?_
            refine g_icmp (t := 109) lk_113_14 rfl (by first | (unfold pm_inI; omega) | exact pm_and_in _ _ | exact pm_shr_in _ _ | exact pm_or_in _ _ | exact pm_xor_in _ _ | exact pm_shl_in _ _ | exact pm_cmp_in _ _ | exact pm_b8_in _ | (unfold pm_inI; split <;> omega)) (by first | (unfold pm_inI; omega) | exact pm_and_in _ _ | exact pm_shr_in _ _ | exact pm_or_in _ _ | exact pm_xor_in _ _ | exact pm_shl_in _ _ | exact pm_cmp_in _ _ | exact pm_b8_in _ | (unfold pm_inI; split <;> omega)) (fun h1 => ?_) (fun h1 => ?_)
            · replace h1 : (l : Int) ≤ (i : Int) := h1
              omega
            · replace h1 : ¬ ((l : Int) ≤ (i : Int)) := h1
              refine g_aload_n lk_113_17 rfl ?_
              refine g_iload lk_113_18 rfl ?_
              refine g_virtual (p := 76) (Qc := _) lk_113_20 rfl (Nat.le_of_ble_eq_true rfl) rfl rfl (lay.on (by decide) rfl) (Nat.le_of_ble_eq_true rfl) (Nat.le_of_ble_eq_true rfl) (Nat.zero_le _) (Nat.zero_le _) (ii) ?_
              rintro _ N2 ⟨rfl, hN2⟩
              rw [hN2]
              show Wp _ 113 23 [(2, ((76 : Nat) : Int)), (0, (g : Int)), (2, ((98 : Nat) : Int)), (0, (a : Int)), (0, (i : Int))] [(0, 0)] N _ _ _
              refine g_if (t := 71) lk_113_23 rfl (by first | (unfold pm_inI; omega) | exact pm_and_in _ _ | exact pm_shr_in _ _ | exact pm_or_in _ _ | exact pm_xor_in _ _ | exact pm_shl_in _ _ | exact pm_cmp_in _ _ | exact pm_b8_in _ | (unfold pm_inI; split <;> omega)) (fun h => absurd h (show ¬ (¬ (0 : Int) = (0 : Int)) by omega)) (fun _ => ?_)
              refine g_aload_n lk_113_26 rfl ?_
              refine g_getfield lk_113_27 rfl (lay.on (by decide) rfl) (v := ((83 : Nat) : Int)) (lay.rf rfl) ?_
              refine g_iload lk_113_30 rfl ?_
              refine m_iaload (u := []) (M := N) lk_113_32 (lay.ay (by decide) rfl) (by omega) (j := i) (by omega) (v := (e.2.2.1 : Int)) rd3 ?_
              refine g_iload_n lk_113_33 rfl ?_
              refine g_icmp (t := 71) lk_113_34 rfl (by first | (unfold pm_inI; omega) | exact pm_and_in _ _ | exact pm_shr_in _ _ | exact pm_or_in _ _ | exact pm_xor_in _ _ | exact pm_shl_in _ _ | exact pm_cmp_in _ _ | exact pm_b8_in _ | (unfold pm_inI; split <;> omega)) (by first | (unfold pm_inI; omega) | exact pm_and_in _ _ | exact pm_shr_in _ _ | exact pm_or_in _ _ | exact pm_xor_in _ _ | exact pm_shl_in _ _ | exact pm_cmp_in _ _ | exact pm_b8_in _ | (unfold pm_inI; split <;> omega)) (fun h3 => ?_) (fun h3 => ?_)
              · replace h3 : ¬ (e.2.2.1 : Int) = (g : Int) := h3
                refine g_aload_n lk_113_71 rfl ?_
                refine g_iload lk_113_72 rfl ?_
                refine g_virtual (p := 76) (Qc := _) lk_113_74 rfl (Nat.le_of_ble_eq_true rfl) rfl rfl (lay.on (by decide) rfl) (Nat.le_of_ble_eq_true rfl) (Nat.le_of_ble_eq_true rfl) (Nat.zero_le _) (Nat.zero_le _) (iu) ?_
                rintro _ N4 ⟨rfl, hN4⟩
                rw [hN4]
                show Wp _ 113 77 [(2, ((76 : Nat) : Int)), (0, (g : Int)), (2, ((98 : Nat) : Int)), (0, (a : Int)), (0, (i : Int))] [(0, 1)] N _ _ _
                refine g_if (t := 103) lk_113_77 rfl (by first | (unfold pm_inI; omega) | exact pm_and_in _ _ | exact pm_shr_in _ _ | exact pm_or_in _ _ | exact pm_xor_in _ _ | exact pm_shl_in _ _ | exact pm_cmp_in _ _ | exact pm_b8_in _ | (unfold pm_inI; split <;> omega)) (fun h => absurd h (show ¬ ((1 : Int) = (0 : Int)) by omega)) (fun _ => ?_)
                refine g_aload_n lk_113_80 rfl ?_
                refine g_getfield lk_113_81 rfl (lay.on (by decide) rfl) (v := ((83 : Nat) : Int)) (lay.rf rfl) ?_
                refine g_iload lk_113_84 rfl ?_
                refine m_iaload (u := []) (M := N) lk_113_86 (lay.ay (by decide) rfl) (by omega) (j := i) (by omega) (v := (e.2.2.1 : Int)) rd3 ?_
                refine g_iload_n lk_113_87 rfl ?_
                refine g_icmp (t := 103) lk_113_88 rfl (by first | (unfold pm_inI; omega) | exact pm_and_in _ _ | exact pm_shr_in _ _ | exact pm_or_in _ _ | exact pm_xor_in _ _ | exact pm_shl_in _ _ | exact pm_cmp_in _ _ | exact pm_b8_in _ | (unfold pm_inI; split <;> omega)) (by first | (unfold pm_inI; omega) | exact pm_and_in _ _ | exact pm_shr_in _ _ | exact pm_or_in _ _ | exact pm_xor_in _ _ | exact pm_shl_in _ _ | exact pm_cmp_in _ _ | exact pm_b8_in _ | (unfold pm_inI; split <;> omega)) (fun h5 => ?_) (fun h5 => ?_)
                · replace h5 : (g : Int) ≤ (e.2.2.1 : Int) := h5
                  refine g_iinc (ls' := [(2, ((76 : Nat) : Int)), (0, (g : Int)), (2, ((98 : Nat) : Int)), (0, (a : Int)), (0, ((i : Int) + 1))]) lk_113_103 rfl rfl rfl ?_
                  refine g_goto (t := 5) lk_113_106 rfl ?_
                  omega
                · replace h5 : ¬ ((g : Int) ≤ (e.2.2.1 : Int)) := h5
                  refine g_iload_n lk_113_91 rfl ?_
                  refine g_aload_n lk_113_92 rfl ?_
                  refine g_getfield lk_113_93 rfl (lay.on (by decide) rfl) (v := ((84 : Nat) : Int)) (lay.rf rfl) ?_
                  refine g_iload lk_113_96 rfl ?_
                  refine m_iaload (u := []) (M := N) lk_113_98 (lay.ay (by decide) rfl) (by omega) (j := i) (by omega) (v := (e.2.2.2.1 : Int)) rd4 ?_
                  refine g_mmax lk_113_99 (by first | (unfold pm_inI; omega) | exact pm_and_in _ _ | exact pm_shr_in _ _ | exact pm_or_in _ _ | exact pm_xor_in _ _ | exact pm_shl_in _ _ | exact pm_cmp_in _ _ | exact pm_b8_in _ | (unfold pm_inI; split <;> omega)) (by first | (unfold pm_inI; omega) | exact pm_and_in _ _ | exact pm_shr_in _ _ | exact pm_or_in _ _ | exact pm_xor_in _ _ | exact pm_shl_in _ _ | exact pm_cmp_in _ _ | exact pm_b8_in _ | (unfold pm_inI; split <;> omega)) (Nat.le_of_ble_eq_true rfl) ?_
                  refine g_istore_n (ls' := [(2, ((76 : Nat) : Int)), (0, (g : Int)), (2, ((98 : Nat) : Int)), (0, (max (a : Int) (e.2.2.2.1 : Int))), (0, (i : Int))]) lk_113_102 rfl rfl ?_
                  refine g_iinc (ls' := [(2, ((76 : Nat) : Int)), (0, (g : Int)), (2, ((98 : Nat) : Int)), (0, (max (a : Int) (e.2.2.2.1 : Int))), (0, ((i : Int) + 1))]) lk_113_103 rfl rfl rfl ?_
                  refine g_goto (t := 5) lk_113_106 rfl ?_
                  exact same _ (by rw [fi]; omega)
              · replace h3 : ¬ (¬ (e.2.2.1 : Int) = (g : Int)) := h3
                omega
          · rw [if_neg (fun z => q4 z.2)] at fi
            refine g_iload lk_113_5 rfl ?_
            refine g_aload_n lk_113_7 rfl ?_
            refine g_getfield lk_113_8 rfl (lay.on (by decide) rfl) (v := ((77 : Nat) : Int)) (lay.rf rfl) ?_
            refine m_getfield (u := []) (M := N) lk_113_11 rfl (lay.on (by decide) rfl) (v := (l : Int)) hct ?_
            refine g_icmp (t := 109) lk_113_14 rfl (by first | (unfold pm_inI; omega) | exact pm_and_in _ _ | exact pm_shr_in _ _ | exact pm_or_in _ _ | exact pm_xor_in _ _ | exact pm_shl_in _ _ | exact pm_cmp_in _ _ | exact pm_b8_in _ | (unfold pm_inI; split <;> omega)) (by first | (unfold pm_inI; omega) | exact pm_and_in _ _ | exact pm_shr_in _ _ | exact pm_or_in _ _ | exact pm_xor_in _ _ | exact pm_shl_in _ _ | exact pm_cmp_in _ _ | exact pm_b8_in _ | (unfold pm_inI; split <;> omega)) (fun h1 => ?_) (fun h1 => ?_)
            · replace h1 : (l : Int) ≤ (i : Int) := h1
              omega
            · replace h1 : ¬ ((l : Int) ≤ (i : Int)) := h1
              refine g_aload_n lk_113_17 rfl ?_
              refine g_iload lk_113_18 rfl ?_
              refine g_virtual (p := 76) (Qc := _) lk_113_20 rfl (Nat.le_of_ble_eq_true rfl) rfl rfl (lay.on (by decide) rfl) (Nat.le_of_ble_eq_true rfl) (Nat.le_of_ble_eq_true rfl) (Nat.zero_le _) (Nat.zero_le _) (ii) ?_
              rintro _ N2 ⟨rfl, hN2⟩
              rw [hN2]
              show Wp _ 113 23 [(2, ((76 : Nat) : Int)), (0, (g : Int)), (2, ((98 : Nat) : Int)), (0, (a : Int)), (0, (i : Int))] [(0, 0)] N _ _ _
              refine g_if (t := 71) lk_113_23 rfl (by first | (unfold pm_inI; omega) | exact pm_and_in _ _ | exact pm_shr_in _ _ | exact pm_or_in _ _ | exact pm_xor_in _ _ | exact pm_shl_in _ _ | exact pm_cmp_in _ _ | exact pm_b8_in _ | (unfold pm_inI; split <;> omega)) (fun h => absurd h (show ¬ (¬ (0 : Int) = (0 : Int)) by omega)) (fun _ => ?_)
              refine g_aload_n lk_113_26 rfl ?_
              refine g_getfield lk_113_27 rfl (lay.on (by decide) rfl) (v := ((83 : Nat) : Int)) (lay.rf rfl) ?_
              refine g_iload lk_113_30 rfl ?_
              refine m_iaload (u := []) (M := N) lk_113_32 (lay.ay (by decide) rfl) (by omega) (j := i) (by omega) (v := (e.2.2.1 : Int)) rd3 ?_
              refine g_iload_n lk_113_33 rfl ?_
              refine g_icmp (t := 71) lk_113_34 rfl (by first | (unfold pm_inI; omega) | exact pm_and_in _ _ | exact pm_shr_in _ _ | exact pm_or_in _ _ | exact pm_xor_in _ _ | exact pm_shl_in _ _ | exact pm_cmp_in _ _ | exact pm_b8_in _ | (unfold pm_inI; split <;> omega)) (by first | (unfold pm_inI; omega) | exact pm_and_in _ _ | exact pm_shr_in _ _ | exact pm_or_in _ _ | exact pm_xor_in _ _ | exact pm_shl_in _ _ | exact pm_cmp_in _ _ | exact pm_b8_in _ | (unfold pm_inI; split <;> omega)) (fun h3 => ?_) (fun h3 => ?_)
              · replace h3 : ¬ (e.2.2.1 : Int) = (g : Int) := h3
                refine g_aload_n lk_113_71 rfl ?_
                refine g_iload lk_113_72 rfl ?_
                refine g_virtual (p := 76) (Qc := _) lk_113_74 rfl (Nat.le_of_ble_eq_true rfl) rfl rfl (lay.on (by decide) rfl) (Nat.le_of_ble_eq_true rfl) (Nat.le_of_ble_eq_true rfl) (Nat.zero_le _) (Nat.zero_le _) (iu) ?_
                rintro _ N4 ⟨rfl, hN4⟩
                rw [hN4]
                show Wp _ 113 77 [(2, ((76 : Nat) : Int)), (0, (g : Int)), (2, ((98 : Nat) : Int)), (0, (a : Int)), (0, (i : Int))] [(0, 1)] N _ _ _
                refine g_if (t := 103) lk_113_77 rfl (by first | (unfold pm_inI; omega) | exact pm_and_in _ _ | exact pm_shr_in _ _ | exact pm_or_in _ _ | exact pm_xor_in _ _ | exact pm_shl_in _ _ | exact pm_cmp_in _ _ | exact pm_b8_in _ | (unfold pm_inI; split <;> omega)) (fun h => absurd h (show ¬ ((1 : Int) = (0 : Int)) by omega)) (fun _ => ?_)
                refine g_aload_n lk_113_80 rfl ?_
                refine g_getfield lk_113_81 rfl (lay.on (by decide) rfl) (v := ((83 : Nat) : Int)) (lay.rf rfl) ?_
                refine g_iload lk_113_84 rfl ?_
                refine m_iaload (u := []) (M := N) lk_113_86 (lay.ay (by decide) rfl) (by omega) (j := i) (by omega) (v := (e.2.2.1 : Int)) rd3 ?_
                refine g_iload_n lk_113_87 rfl ?_
                refine g_icmp (t := 103) lk_113_88 rfl (by first | (unfold pm_inI; omega) | exact pm_and_in _ _ | exact pm_shr_in _ _ | exact pm_or_in _ _ | exact pm_xor_in _ _ | exact pm_shl_in _ _ | exact pm_cmp_in _ _ | exact pm_b8_in _ | (unfold pm_inI; split <;> omega)) (by first | (unfold pm_inI; omega) | exact pm_and_in _ _ | exact pm_shr_in _ _ | exact pm_or_in _ _ | exact pm_xor_in _ _ | exact pm_shl_in _ _ | exact pm_cmp_in _ _ | exact pm_b8_in _ | (unfold pm_inI; split <;> omega)) (fun h5 => ?_) (fun h5 => ?_)
                · replace h5 : (g : Int) ≤ (e.2.2.1 : Int) := h5
                  refine g_iinc (ls' := [(2, ((76 : Nat) : Int)), (0, (g : Int)), (2, ((98 : Nat) : Int)), (0, (a : Int)), (0, ((i : Int) + 1))]) lk_113_103 rfl rfl rfl ?_
                  refine g_goto (t := 5) lk_113_106 rfl ?_
                  exact same _ (by rw [fi]; omega)
                · replace h5 : ¬ ((g : Int) ≤ (e.2.2.1 : Int)) := h5
                  refine g_iload_n lk_113_91 rfl ?_
                  refine g_aload_n lk_113_92 rfl ?_
                  refine g_getfield lk_113_93 rfl (lay.on (by decide) rfl) (v := ((84 : Nat) : Int)) (lay.rf rfl) ?_
                  refine g_iload lk_113_96 rfl ?_
                  refine m_iaload (u := []) (M := N) lk_113_98 (lay.ay (by decide) rfl) (by omega) (j := i) (by omega) (v := (e.2.2.2.1 : Int)) rd4 ?_
                  refine g_mmax lk_113_99 (by first | (unfold pm_inI; omega) | exact pm_and_in _ _ | exact pm_shr_in _ _ | exact pm_or_in _ _ | exact pm_xor_in _ _ | exact pm_shl_in _ _ | exact pm_cmp_in _ _ | exact pm_b8_in _ | (unfold pm_inI; split <;> omega)) (by first | (unfold pm_inI; omega) | exact pm_and_in _ _ | exact pm_shr_in _ _ | exact pm_or_in _ _ | exact pm_xor_in _ _ | exact pm_shl_in _ _ | exact pm_cmp_in _ _ | exact pm_b8_in _ | (unfold pm_inI; split <;> omega)) (Nat.le_of_ble_eq_true rfl) ?_
                  refine g_istore_n (ls' := [(2, ((76 : Nat) : Int)), (0, (g : Int)), (2, ((98 : Nat) : Int)), (0, (max (a : Int) (e.2.2.2.1 : Int))), (0, (i : Int))]) lk_113_102 rfl rfl ?_
                  refine g_iinc (ls' := [(2, ((76 : Nat) : Int)), (0, (g : Int)), (2, ((98 : Nat) : Int)), (0, (max (a : Int) (e.2.2.2.1 : Int))), (0, ((i : Int) + 1))]) lk_113_103 rfl rfl rfl ?_
                  refine g_goto (t := 5) lk_113_106 rfl ?_
                  omega
              · replace h3 : ¬ (¬ (e.2.2.1 : Int) = (g : Int)) := h3
                omega
        · rw [if_neg (fun z => q3 z.1)] at iu
          rw [if_neg (fun z => q3 z.1)] at fi
          clear k9
          refine g_iload lk_113_5 rfl ?_
          refine g_aload_n lk_113_7 rfl ?_
          refine g_getfield lk_113_8 rfl (lay.on (by decide) rfl) (v := ((77 : Nat) : Int)) (lay.rf rfl) ?_
          refine m_getfield (u := []) (M := N) lk_113_11 rfl (lay.on (by decide) rfl) (v := (l : Int)) hct ?_
          refine g_icmp (t := 109) lk_113_14 rfl (by first | (unfold pm_inI; omega) | exact pm_and_in _ _ | exact pm_shr_in _ _ | exact pm_or_in _ _ | exact pm_xor_in _ _ | exact pm_shl_in _ _ | exact pm_cmp_in _ _ | exact pm_b8_in _ | (unfold pm_inI; split <;> omega)) (by first | (unfold pm_inI; omega) | exact pm_and_in _ _ | exact pm_shr_in _ _ | exact pm_or_in _ _ | exact pm_xor_in _ _ | exact pm_shl_in _ _ | exact pm_cmp_in _ _ | exact pm_b8_in _ | (unfold pm_inI; split <;> omega)) (fun h1 => ?_) (fun h1 => ?_)
          · replace h1 : (l : Int) ≤ (i : Int) := h1
            omega
          · replace h1 : ¬ ((l : Int) ≤ (i : Int)) := h1
            refine g_aload_n lk_113_17 rfl ?_
            refine g_iload lk_113_18 rfl ?_
            refine g_virtual (p := 76) (Qc := _) lk_113_20 rfl (Nat.le_of_ble_eq_true rfl) rfl rfl (lay.on (by decide) rfl) (Nat.le_of_ble_eq_true rfl) (Nat.le_of_ble_eq_true rfl) (Nat.zero_le _) (Nat.zero_le _) (ii) ?_
            rintro _ N2 ⟨rfl, hN2⟩
            rw [hN2]
            show Wp _ 113 23 [(2, ((76 : Nat) : Int)), (0, (g : Int)), (2, ((98 : Nat) : Int)), (0, (a : Int)), (0, (i : Int))] [(0, 0)] N _ _ _
            refine g_if (t := 71) lk_113_23 rfl (by first | (unfold pm_inI; omega) | exact pm_and_in _ _ | exact pm_shr_in _ _ | exact pm_or_in _ _ | exact pm_xor_in _ _ | exact pm_shl_in _ _ | exact pm_cmp_in _ _ | exact pm_b8_in _ | (unfold pm_inI; split <;> omega)) (fun h => absurd h (show ¬ (¬ (0 : Int) = (0 : Int)) by omega)) (fun _ => ?_)
            refine g_aload_n lk_113_26 rfl ?_
            refine g_getfield lk_113_27 rfl (lay.on (by decide) rfl) (v := ((83 : Nat) : Int)) (lay.rf rfl) ?_
            refine g_iload lk_113_30 rfl ?_
            refine m_iaload (u := []) (M := N) lk_113_32 (lay.ay (by decide) rfl) (by omega) (j := i) (by omega) (v := (e.2.2.1 : Int)) rd3 ?_
            refine g_iload_n lk_113_33 rfl ?_
            refine g_icmp (t := 71) lk_113_34 rfl (by first | (unfold pm_inI; omega) | exact pm_and_in _ _ | exact pm_shr_in _ _ | exact pm_or_in _ _ | exact pm_xor_in _ _ | exact pm_shl_in _ _ | exact pm_cmp_in _ _ | exact pm_b8_in _ | (unfold pm_inI; split <;> omega)) (by first | (unfold pm_inI; omega) | exact pm_and_in _ _ | exact pm_shr_in _ _ | exact pm_or_in _ _ | exact pm_xor_in _ _ | exact pm_shl_in _ _ | exact pm_cmp_in _ _ | exact pm_b8_in _ | (unfold pm_inI; split <;> omega)) (fun h3 => ?_) (fun h3 => ?_)
            · replace h3 : ¬ (e.2.2.1 : Int) = (g : Int) := h3
              refine g_aload_n lk_113_71 rfl ?_
              refine g_iload lk_113_72 rfl ?_
              refine g_virtual (p := 76) (Qc := _) lk_113_74 rfl (Nat.le_of_ble_eq_true rfl) rfl rfl (lay.on (by decide) rfl) (Nat.le_of_ble_eq_true rfl) (Nat.le_of_ble_eq_true rfl) (Nat.zero_le _) (Nat.zero_le _) (iu) ?_
              rintro _ N4 ⟨rfl, hN4⟩
              rw [hN4]
              show Wp _ 113 77 [(2, ((76 : Nat) : Int)), (0, (g : Int)), (2, ((98 : Nat) : Int)), (0, (a : Int)), (0, (i : Int))] [(0, 0)] N _ _ _
              refine g_if (t := 103) lk_113_77 rfl (by first | (unfold pm_inI; omega) | exact pm_and_in _ _ | exact pm_shr_in _ _ | exact pm_or_in _ _ | exact pm_xor_in _ _ | exact pm_shl_in _ _ | exact pm_cmp_in _ _ | exact pm_b8_in _ | (unfold pm_inI; split <;> omega)) (fun _ => ?_) (fun h => absurd (show (0 : Int) = (0 : Int) by omega) h)
              refine g_iinc (ls' := [(2, ((76 : Nat) : Int)), (0, (g : Int)), (2, ((98 : Nat) : Int)), (0, (a : Int)), (0, ((i : Int) + 1))]) lk_113_103 rfl rfl rfl ?_
              refine g_goto (t := 5) lk_113_106 rfl ?_
              exact same _ (by rw [fi]; omega)
            · replace h3 : ¬ (¬ (e.2.2.1 : Int) = (g : Int)) := h3
              omega
  show Wp (d + 5) 113 0 [(2, ((76 : Nat) : Int)), (0, (g : Int)), (2, ((98 : Nat) : Int)), (9, 0), (9, 0)] [] M mc ms Q
  refine g_iconst lk_113_0 ?_
  refine g_istore_n (ls' := [(2, ((76 : Nat) : Int)), (0, (g : Int)), (2, ((98 : Nat) : Int)), (0, 0), (9, 0)]) lk_113_1 rfl rfl ?_
  refine g_iconst lk_113_2 ?_
  refine g_istore (ls' := [(2, ((76 : Nat) : Int)), (0, (g : Int)), (2, ((98 : Nat) : Int)), (0, 0), (0, 0)]) lk_113_3 rfl rfl ?_
  exact loop l 0 M mc ms s fa w f (by omega) lay0 hM0 hA0 hB0 hff (fun z => z) (fun z => z) (Or.inl rfl) (Or.inl rfl) hsw (Gr.refl _ _) rfl (Or.inr ⟨b1, b2⟩)
set_option maxHeartbeats 8000000 in
theorem c_Told_graftedCost3 {d mc ms : Nat} {M : pm_M} (lay0 : Lay M) {T : Tab} (hT : TabOK T) (hM0 : TbAt M 24 T) {s fa w f : Nat} (hA0 : CA M T s fa) (hB0 : CB M T 0 98 w f) (hff : f = 1 → fa = 1) (hsw : s ≠ w) (b1 : 2 ≤ mc) (b2 : 8192 ≤ ms) {L : List Nd} {p dp : Nat → Nat} (hX : TdAt M 87 T L p dp) {g : Nat} (hg : g ≤ 9) :
    pm_E (d + 5) 113 [(2, ((87 : Nat) : Int)), (0, (g : Int)), (2, ((98 : Nat) : Int))] M mc ms (fun ρ M' => ρ = some (0, (x2 T (gCel T L p g) : Int)) ∧ Wk M M' T s fa w f) := by
  obtain ⟨Q, hQ⟩ : ∃ Q : pm_Q, Q = (fun ρ M' => ρ = some (0, (x2 T (gCel T L p g) : Int)) ∧ Wk M M' T s fa w f) := ⟨_, rfl⟩
  rw [← hQ]
  obtain ⟨hD, hp, hx⟩ := hX.1
  have l31 := hD.2.1
  have os := hA0.1
  have ow := hB0.1
  have m0 := lay0.1
  have fin := x2_graft hT hD hp g
  obtain ⟨fn, hfn⟩ : ∃ q : Nat → Nat, q = gNod T L p g := ⟨_, rfl⟩
  rw [← hfn] at fin
  obtain ⟨l, hl⟩ : ∃ l, l = L.length := ⟨_, rfl⟩
  rw [← hl] at l31 fin
  have fb : ∀ i, i < l → fn i ≤ 11800 := fun i hi => by
    obtain ⟨c1, c2, c3, c4, _, _⟩ := CM_bd hT hD hp _ _ (Nat.lt_succ_self _) (show i < L.length by omega)
    have := (hx i (by omega)).1
    rw [hfn]
    unfold gNod
    by_cases q : idl (CM T L p i)
    · rw [if_pos q]; omega
    rw [if_neg q]
    have := BW_small hT 0 (rs := (CM T L p i).1) (cs := (CM T L p i).2.1) (by omega) c1 (by omega) c2
    split
    · omega
    · split <;> omega
  have loop : ∀ (n i : Nat) (N : pm_M) (cb sb' s' fa' w' f' : Nat), i + n = l → Lay N → TbAt N 24 T → CA N T s' fa' → CB N T 0 98 w' f' → (f' = 1 → fa' = 1) → (f = 1 → f' = 1) → (fa = 1 → fa' = 1) → (s' = s ∨ M.1 ≤ s') → (w' = w ∨ M.1 ≤ w') → s' ≠ w' → Gr [44, s, 98, w] M N → pm_ct N 98 6 = pm_ct M 98 6 → (f' = 1 ∨ 2 ≤ cb ∧ 8192 ≤ sb') → Wp (d + 5) 113 5 [(2, ((87 : Nat) : Int)), (0, (g : Int)), (2, ((98 : Nat) : Int)), (0, ((xm fn i : Nat) : Int)), (0, (i : Int))] [] N cb sb' Q := by
    intro n
    induction n with
    | zero =>
      intro i N cb sb' s' fa' w' f' hi lay hM hA hB k1 k2 k3 k4 k5 k6 k7 k8 k9
      have e : i = l := by omega
      have hct := (hX.gr k7 m0 (by omega) (by omega) (fun a x y => td_out os ow x y)).2.1
      rw [← hl, ← e] at hct
      rw [← e] at fin
      clear k9
      refine g_iload lk_113_5 rfl ?_
      refine g_aload_n lk_113_7 rfl ?_
      refine g_getfield lk_113_8 rfl (lay.on (by decide) rfl) (v := ((88 : Nat) : Int)) (lay.rf rfl) ?_
      refine m_getfield (u := []) (M := N) lk_113_11 rfl (lay.on (by decide) rfl) (v := (i : Int)) hct ?_
      refine g_icmp (t := 109) lk_113_14 rfl (by first | (unfold pm_inI; omega) | exact pm_and_in _ _ | exact pm_shr_in _ _ | exact pm_or_in _ _ | exact pm_xor_in _ _ | exact pm_shl_in _ _ | exact pm_cmp_in _ _ | exact pm_b8_in _ | (unfold pm_inI; split <;> omega)) (by first | (unfold pm_inI; omega) | exact pm_and_in _ _ | exact pm_shr_in _ _ | exact pm_or_in _ _ | exact pm_xor_in _ _ | exact pm_shl_in _ _ | exact pm_cmp_in _ _ | exact pm_b8_in _ | (unfold pm_inI; split <;> omega)) (fun h1 => ?_) (fun h1 => ?_)
      · replace h1 : (i : Int) ≤ (i : Int) := h1
        refine g_iload_n lk_113_109 rfl ?_
        refine g_ireturn lk_113_110 (fun h => absurd h (by decide)) ?_
        rw [hQ]
        exact ⟨by rw [fin], lay, hM, s', fa', w', f', hA, hB, k1, k2, k3, k4, k5, k6, k7, k8⟩
      · replace h1 : ¬ ((i : Int) ≤ (i : Int)) := h1
        omega
    | succ n ih =>
      intro i N cb sb' s' fa' w' f' hi lay hM hA hB k1 k2 k3 k4 k5 k6 k7 k8 k9
      have hk : i < L.length := by omega
      have tdN := hX.gr k7 m0 (by omega) (by omega) (fun a x y => td_out os ow x y)
      have iu := c_Told_isUsedLeaf3 (d := d + 3) (mc := 0) (ms := 0) lay hT tdN hk
      have ii := c_Told_isIdle3 (d := d + 4) (mc := 0) (ms := 0) lay hT tdN hk
      have hct := tdN.2.1
      rw [← hl] at hct
      obtain ⟨rd1, rd2, rd3, rd4, _⟩ := tdN.2.2.2 i hk
      obtain ⟨c1, c2, c3, c4, _, _⟩ := CM_bd hT hD hp _ _ (Nat.lt_succ_self _) hk
      have d8 := (hx i hk).1
      have fi : fn i = if idl (CM T L p i) then 0 else if (CM T L p i).2.2.1 = g then (CM T L p i).2.2.2.1 + BW T 0 (CM T L p i).1 (CM T L p i).2.1 else if (ndA L i).1 = 0 ∧ (CM T L p i).2.2.1 < g then (CM T L p i).2.2.2.1 else 0 := by rw [hfn]; rfl
      have x8 : xm fn i ≤ 11800 := xm_le (fun j hj => fb j (by omega))
      obtain ⟨a, ha⟩ : ∃ a, a = xm fn i := ⟨_, rfl⟩
      have go : ∀ (z : Int) (N : pm_M) (cb sb' s' fa' w' f' : Nat), z = ((max a (fn i) : Nat) : Int) → Lay N → TbAt N 24 T → CA N T s' fa' → CB N T 0 98 w' f' → (f' = 1 → fa' = 1) → (f = 1 → f' = 1) → (fa = 1 → fa' = 1) → (s' = s ∨ M.1 ≤ s') → (w' = w ∨ M.1 ≤ w') → s' ≠ w' → Gr [44, s, 98, w] M N → pm_ct N 98 6 = pm_ct M 98 6 → (f' = 1 ∨ 2 ≤ cb ∧ 8192 ≤ sb') → Wp (d + 5) 113 5 [(2, ((87 : Nat) : Int)), (0, (g : Int)), (2, ((98 : Nat) : Int)), (0, z), (0, (i : Int) + 1)] [] N cb sb' Q := fun z N cb sb' s' fa' w' f' hz q1 q2 q3 q4 q5 q6 q7 q8 q9 q10 q11 q12 q13 => by
        rw [hz, ha]; exact ih (i + 1) N cb sb' s' fa' w' f' (by omega) q1 q2 q3 q4 q5 q6 q7 q8 q9 q10 q11 q12 q13
      rw [← ha] at x8 ⊢
      obtain ⟨e, he⟩ : ∃ e, e = CM T L p i := ⟨_, rfl⟩
      rw [← he] at rd1 rd2 rd3 rd4 fi c1 c2 c3 c4 iu ii
      clear ih
      have same := fun z (hz : z = ((max a (fn i) : Nat) : Int)) => go z N cb sb' s' fa' w' f' hz lay hM hA hB k1 k2 k3 k4 k5 k6 k7 k8 k9
      by_cases q0 : idl e
      · rw [if_pos q0] at ii fi
        rw [if_neg (fun z => z.2 q0)] at iu
        clear k9
        refine g_iload lk_113_5 rfl ?_
        refine g_aload_n lk_113_7 rfl ?_
        refine g_getfield lk_113_8 rfl (lay.on (by decide) rfl) (v := ((88 : Nat) : Int)) (lay.rf rfl) ?_
        refine m_getfield (u := []) (M := N) lk_113_11 rfl (lay.on (by decide) rfl) (v := (l : Int)) hct ?_
        refine g_icmp (t := 109) lk_113_14 rfl (by first | (unfold pm_inI; omega) | exact pm_and_in _ _ | exact pm_shr_in _ _ | exact pm_or_in _ _ | exact pm_xor_in _ _ | exact pm_shl_in _ _ | exact pm_cmp_in _ _ | exact pm_b8_in _ | (unfold pm_inI; split <;> omega)) (by first | (unfold pm_inI; omega) | exact pm_and_in _ _ | exact pm_shr_in _ _ | exact pm_or_in _ _ | exact pm_xor_in _ _ | exact pm_shl_in _ _ | exact pm_cmp_in _ _ | exact pm_b8_in _ | (unfold pm_inI; split <;> omega)) (fun h1 => ?_) (fun h1 => ?_)
        · replace h1 : (l : Int) ≤ (i : Int) := h1
          omega
        · replace h1 : ¬ ((l : Int) ≤ (i : Int)) := h1
          refine g_aload_n lk_113_17 rfl ?_
          refine g_iload lk_113_18 rfl ?_
          refine g_virtual (p := 87) (Qc := _) lk_113_20 rfl (Nat.le_of_ble_eq_true rfl) rfl rfl (lay.on (by decide) rfl) (Nat.le_of_ble_eq_true rfl) (Nat.le_of_ble_eq_true rfl) (Nat.zero_le _) (Nat.zero_le _) (ii) ?_
          rintro _ N2 ⟨rfl, hN2⟩
          rw [hN2]
          show Wp _ 113 23 [(2, ((87 : Nat) : Int)), (0, (g : Int)), (2, ((98 : Nat) : Int)), (0, (a : Int)), (0, (i : Int))] [(0, 1)] N _ _ _
          refine g_if (t := 71) lk_113_23 rfl (by first | (unfold pm_inI; omega) | exact pm_and_in _ _ | exact pm_shr_in _ _ | exact pm_or_in _ _ | exact pm_xor_in _ _ | exact pm_shl_in _ _ | exact pm_cmp_in _ _ | exact pm_b8_in _ | (unfold pm_inI; split <;> omega)) (fun _ => ?_) (fun h => absurd (show ¬ (1 : Int) = (0 : Int) by omega) h)
          refine g_aload_n lk_113_71 rfl ?_
          refine g_iload lk_113_72 rfl ?_
          refine g_virtual (p := 87) (Qc := _) lk_113_74 rfl (Nat.le_of_ble_eq_true rfl) rfl rfl (lay.on (by decide) rfl) (Nat.le_of_ble_eq_true rfl) (Nat.le_of_ble_eq_true rfl) (Nat.zero_le _) (Nat.zero_le _) (iu) ?_
          rintro _ N3 ⟨rfl, hN3⟩
          rw [hN3]
          show Wp _ 113 77 [(2, ((87 : Nat) : Int)), (0, (g : Int)), (2, ((98 : Nat) : Int)), (0, (a : Int)), (0, (i : Int))] [(0, 0)] N _ _ _
          refine g_if (t := 103) lk_113_77 rfl (by first | (unfold pm_inI; omega) | exact pm_and_in _ _ | exact pm_shr_in _ _ | exact pm_or_in _ _ | exact pm_xor_in _ _ | exact pm_shl_in _ _ | exact pm_cmp_in _ _ | exact pm_b8_in _ | (unfold pm_inI; split <;> omega)) (fun _ => ?_) (fun h => absurd (show (0 : Int) = (0 : Int) by omega) h)
          refine g_iinc (ls' := [(2, ((87 : Nat) : Int)), (0, (g : Int)), (2, ((98 : Nat) : Int)), (0, (a : Int)), (0, ((i : Int) + 1))]) lk_113_103 rfl rfl rfl ?_
          refine g_goto (t := 5) lk_113_106 rfl ?_
          exact same _ (by rw [fi]; omega)
      rw [if_neg q0] at ii fi
      by_cases q1 : e.2.2.1 = g
      · rw [if_pos q1] at fi
        have bs := BW_small hT 0 (rs := e.1) (cs := e.2.1) (by omega) c1 (by omega) c2
        have e1 : 1 ≤ e.1 := by omega
        have e2 : 1 ≤ e.2.1 := by omega
        by_cases q2 : f' = 1
        · rw [q2] at hB
          have wo := c_Best_worthOf0s (d := d + 3) (mc := 0) (ms := 0) lay hT hM hB e1 c1 e2 c2
          obtain ⟨bw, hbw⟩ : ∃ b, b = BW T 0 e.1 e.2.1 := ⟨_, rfl⟩
          rw [← hbw] at wo fi bs
          clear k9
          refine g_iload lk_113_5 rfl ?_
          refine g_aload_n lk_113_7 rfl ?_
          refine g_getfield lk_113_8 rfl (lay.on (by decide) rfl) (v := ((88 : Nat) : Int)) (lay.rf rfl) ?_
          refine m_getfield (u := []) (M := N) lk_113_11 rfl (lay.on (by decide) rfl) (v := (l : Int)) hct ?_
          refine g_icmp (t := 109) lk_113_14 rfl (by first | (unfold pm_inI; omega) | exact pm_and_in _ _ | exact pm_shr_in _ _ | exact pm_or_in _ _ | exact pm_xor_in _ _ | exact pm_shl_in _ _ | exact pm_cmp_in _ _ | exact pm_b8_in _ | (unfold pm_inI; split <;> omega)) (by first | (unfold pm_inI; omega) | exact pm_and_in _ _ | exact pm_shr_in _ _ | exact pm_or_in _ _ | exact pm_xor_in _ _ | exact pm_shl_in _ _ | exact pm_cmp_in _ _ | exact pm_b8_in _ | (unfold pm_inI; split <;> omega)) (fun h1 => ?_) (fun h1 => ?_)
          · replace h1 : (l : Int) ≤ (i : Int) := h1
            omega
          · replace h1 : ¬ ((l : Int) ≤ (i : Int)) := h1
            refine g_aload_n lk_113_17 rfl ?_
            refine g_iload lk_113_18 rfl ?_
            refine g_virtual (p := 87) (Qc := _) lk_113_20 rfl (Nat.le_of_ble_eq_true rfl) rfl rfl (lay.on (by decide) rfl) (Nat.le_of_ble_eq_true rfl) (Nat.le_of_ble_eq_true rfl) (Nat.zero_le _) (Nat.zero_le _) (ii) ?_
            rintro _ N2 ⟨rfl, hN2⟩
            rw [hN2]
            show Wp _ 113 23 [(2, ((87 : Nat) : Int)), (0, (g : Int)), (2, ((98 : Nat) : Int)), (0, (a : Int)), (0, (i : Int))] [(0, 0)] N _ _ _
            refine g_if (t := 71) lk_113_23 rfl (by first | (unfold pm_inI; omega) | exact pm_and_in _ _ | exact pm_shr_in _ _ | exact pm_or_in _ _ | exact pm_xor_in _ _ | exact pm_shl_in _ _ | exact pm_cmp_in _ _ | exact pm_b8_in _ | (unfold pm_inI; split <;> omega)) (fun h => absurd h (show ¬ (¬ (0 : Int) = (0 : Int)) by omega)) (fun _ => ?_)
            refine g_aload_n lk_113_26 rfl ?_
            refine g_getfield lk_113_27 rfl (lay.on (by decide) rfl) (v := ((94 : Nat) : Int)) (lay.rf rfl) ?_
            refine g_iload lk_113_30 rfl ?_
            refine m_iaload (u := []) (M := N) lk_113_32 (lay.ay (by decide) rfl) (by omega) (j := i) (by omega) (v := (e.2.2.1 : Int)) rd3 ?_
            refine g_iload_n lk_113_33 rfl ?_
            refine g_icmp (t := 71) lk_113_34 rfl (by first | (unfold pm_inI; omega) | exact pm_and_in _ _ | exact pm_shr_in _ _ | exact pm_or_in _ _ | exact pm_xor_in _ _ | exact pm_shl_in _ _ | exact pm_cmp_in _ _ | exact pm_b8_in _ | (unfold pm_inI; split <;> omega)) (by first | (unfold pm_inI; omega) | exact pm_and_in _ _ | exact pm_shr_in _ _ | exact pm_or_in _ _ | exact pm_xor_in _ _ | exact pm_shl_in _ _ | exact pm_cmp_in _ _ | exact pm_b8_in _ | (unfold pm_inI; split <;> omega)) (fun h3 => ?_) (fun h3 => ?_)
            · replace h3 : ¬ (e.2.2.1 : Int) = (g : Int) := h3
              omega
            · replace h3 : ¬ (¬ (e.2.2.1 : Int) = (g : Int)) := h3
              refine g_iload_n lk_113_37 rfl ?_
              refine g_aload_n lk_113_38 rfl ?_
              refine g_getfield lk_113_39 rfl (lay.on (by decide) rfl) (v := ((95 : Nat) : Int)) (lay.rf rfl) ?_
              refine g_iload lk_113_42 rfl ?_
              refine m_iaload (u := []) (M := N) lk_113_44 (lay.ay (by decide) rfl) (by omega) (j := i) (by omega) (v := (e.2.2.2.1 : Int)) rd4 ?_
              refine g_aload_n lk_113_45 rfl ?_
              refine g_aload_n lk_113_46 rfl ?_
              refine g_getfield lk_113_47 rfl (lay.on (by decide) rfl) (v := ((92 : Nat) : Int)) (lay.rf rfl) ?_
              refine g_iload lk_113_50 rfl ?_
              refine m_iaload (u := []) (M := N) lk_113_52 (lay.ay (by decide) rfl) (by omega) (j := i) (by omega) (v := (e.1 : Int)) rd1 ?_
              refine g_aload_n lk_113_53 rfl ?_
              refine g_getfield lk_113_54 rfl (lay.on (by decide) rfl) (v := ((93 : Nat) : Int)) (lay.rf rfl) ?_
              refine g_iload lk_113_57 rfl ?_
              refine m_iaload (u := []) (M := N) lk_113_59 (lay.ay (by decide) rfl) (by omega) (j := i) (by omega) (v := (e.2.1 : Int)) rd2 ?_
              refine g_virtual (p := 98) (Qc := _) lk_113_60 rfl (Nat.le_of_ble_eq_true rfl) rfl rfl (lay.on (by decide) rfl) (Nat.le_of_ble_eq_true rfl) (Nat.le_of_ble_eq_true rfl) (Nat.zero_le _) (Nat.zero_le _) (wo) ?_
              rintro _ N4 ⟨rfl, hN4⟩
              rw [hN4]
              show Wp _ 113 63 [(2, ((87 : Nat) : Int)), (0, (g : Int)), (2, ((98 : Nat) : Int)), (0, (a : Int)), (0, (i : Int))] [(0, (bw : Int)), (0, (e.2.2.2.1 : Int)), (0, (a : Int))] N _ _ _
              refine g_iadd lk_113_63 ?_
              refine g_mmax lk_113_64 (by first | (unfold pm_inI; omega) | exact pm_and_in _ _ | exact pm_shr_in _ _ | exact pm_or_in _ _ | exact pm_xor_in _ _ | exact pm_shl_in _ _ | exact pm_cmp_in _ _ | exact pm_b8_in _ | (unfold pm_inI; split <;> omega)) (by first | (unfold pm_inI; omega) | exact pm_and_in _ _ | exact pm_shr_in _ _ | exact pm_or_in _ _ | exact pm_xor_in _ _ | exact pm_shl_in _ _ | exact pm_cmp_in _ _ | exact pm_b8_in _ | (unfold pm_inI; split <;> omega)) (Nat.le_of_ble_eq_true rfl) ?_
              refine g_istore_n (ls' := [(2, ((87 : Nat) : Int)), (0, (g : Int)), (2, ((98 : Nat) : Int)), (0, (max (a : Int) ((e.2.2.2.1 : Int) + (bw : Int)))), (0, (i : Int))]) lk_113_67 rfl rfl ?_
              refine g_goto (t := 103) lk_113_68 rfl ?_
              refine g_iinc (ls' := [(2, ((87 : Nat) : Int)), (0, (g : Int)), (2, ((98 : Nat) : Int)), (0, (max (a : Int) ((e.2.2.2.1 : Int) + (bw : Int)))), (0, ((i : Int) + 1))]) lk_113_103 rfl rfl rfl ?_
              refine g_goto (t := 5) lk_113_106 rfl ?_
              exact same _ (by rw [fi]; omega)
        · obtain ⟨k91, k92⟩ : 2 ≤ cb ∧ 8192 ≤ sb' := by rcases k9 with z | z; exact absurd z q2; exact z
          clear k9
          have os' := hA.1
          have ow' := hB.1
          obtain ⟨bw, hbw⟩ : ∃ b, b = BW T 0 e.1 e.2.1 := ⟨_, rfl⟩
          have wo := c_Best_worthOf0 (d := d) (mc := 2) (ms := 8192) lay hT hM hA hB k1 k6 (by omega) (by omega) e1 c1 e2 c2
          rw [← hbw] at wo fi bs
          refine g_iload lk_113_5 rfl ?_
          refine g_aload_n lk_113_7 rfl ?_
          refine g_getfield lk_113_8 rfl (lay.on (by decide) rfl) (v := ((88 : Nat) : Int)) (lay.rf rfl) ?_
          refine m_getfield (u := []) (M := N) lk_113_11 rfl (lay.on (by decide) rfl) (v := (l : Int)) hct ?_
          refine g_icmp (t := 109) lk_113_14 rfl (by first | (unfold pm_inI; omega) | exact pm_and_in _ _ | exact pm_shr_in _ _ | exact pm_or_in _ _ | exact pm_xor_in _ _ | exact pm_shl_in _ _ | exact pm_cmp_in _ _ | exact pm_b8_in _ | (unfold pm_inI; split <;> omega)) (by first | (unfold pm_inI; omega) | exact pm_and_in _ _ | exact pm_shr_in _ _ | exact pm_or_in _ _ | exact pm_xor_in _ _ | exact pm_shl_in _ _ | exact pm_cmp_in _ _ | exact pm_b8_in _ | (unfold pm_inI; split <;> omega)) (fun h1 => ?_) (fun h1 => ?_)
          · replace h1 : (l : Int) ≤ (i : Int) := h1
            omega
          · replace h1 : ¬ ((l : Int) ≤ (i : Int)) := h1
            refine g_aload_n lk_113_17 rfl ?_
            refine g_iload lk_113_18 rfl ?_
            refine g_virtual (p := 87) (Qc := _) lk_113_20 rfl (Nat.le_of_ble_eq_true rfl) rfl rfl (lay.on (by decide) rfl) (Nat.le_of_ble_eq_true rfl) (Nat.le_of_ble_eq_true rfl) (Nat.zero_le _) (Nat.zero_le _) (ii) ?_
            rintro _ N2 ⟨rfl, hN2⟩
            rw [hN2]
            show Wp _ 113 23 [(2, ((87 : Nat) : Int)), (0, (g : Int)), (2, ((98 : Nat) : Int)), (0, (a : Int)), (0, (i : Int))] [(0, 0)] N _ _ _
            refine g_if (t := 71) lk_113_23 rfl (by first | (unfold pm_inI; omega) | exact pm_and_in _ _ | exact pm_shr_in _ _ | exact pm_or_in _ _ | exact pm_xor_in _ _ | exact pm_shl_in _ _ | exact pm_cmp_in _ _ | exact pm_b8_in _ | (unfold pm_inI; split <;> omega)) (fun h => absurd h (show ¬ (¬ (0 : Int) = (0 : Int)) by omega)) (fun _ => ?_)
            refine g_aload_n lk_113_26 rfl ?_
            refine g_getfield lk_113_27 rfl (lay.on (by decide) rfl) (v := ((94 : Nat) : Int)) (lay.rf rfl) ?_
            refine g_iload lk_113_30 rfl ?_
            refine m_iaload (u := []) (M := N) lk_113_32 (lay.ay (by decide) rfl) (by omega) (j := i) (by omega) (v := (e.2.2.1 : Int)) rd3 ?_
            refine g_iload_n lk_113_33 rfl ?_
            refine g_icmp (t := 71) lk_113_34 rfl (by first | (unfold pm_inI; omega) | exact pm_and_in _ _ | exact pm_shr_in _ _ | exact pm_or_in _ _ | exact pm_xor_in _ _ | exact pm_shl_in _ _ | exact pm_cmp_in _ _ | exact pm_b8_in _ | (unfold pm_inI; split <;> omega)) (by first | (unfold pm_inI; omega) | exact pm_and_in _ _ | exact pm_shr_in _ _ | exact pm_or_in _ _ | exact pm_xor_in _ _ | exact pm_shl_in _ _ | exact pm_cmp_in _ _ | exact pm_b8_in _ | (unfold pm_inI; split <;> omega)) (fun h3 => ?_) (fun h3 => ?_)
            · replace h3 : ¬ (e.2.2.1 : Int) = (g : Int) := h3
              omega
            · replace h3 : ¬ (¬ (e.2.2.1 : Int) = (g : Int)) := h3
              refine g_iload_n lk_113_37 rfl ?_
              refine g_aload_n lk_113_38 rfl ?_
              refine g_getfield lk_113_39 rfl (lay.on (by decide) rfl) (v := ((95 : Nat) : Int)) (lay.rf rfl) ?_
              refine g_iload lk_113_42 rfl ?_
              refine m_iaload (u := []) (M := N) lk_113_44 (lay.ay (by decide) rfl) (by omega) (j := i) (by omega) (v := (e.2.2.2.1 : Int)) rd4 ?_
              refine g_aload_n lk_113_45 rfl ?_
              refine g_aload_n lk_113_46 rfl ?_
              refine g_getfield lk_113_47 rfl (lay.on (by decide) rfl) (v := ((92 : Nat) : Int)) (lay.rf rfl) ?_
              refine g_iload lk_113_50 rfl ?_
              refine m_iaload (u := []) (M := N) lk_113_52 (lay.ay (by decide) rfl) (by omega) (j := i) (by omega) (v := (e.1 : Int)) rd1 ?_
              refine g_aload_n lk_113_53 rfl ?_
              refine g_getfield lk_113_54 rfl (lay.on (by decide) rfl) (v := ((93 : Nat) : Int)) (lay.rf rfl) ?_
              refine g_iload lk_113_57 rfl ?_
              refine m_iaload (u := []) (M := N) lk_113_59 (lay.ay (by decide) rfl) (by omega) (j := i) (by omega) (v := (e.2.1 : Int)) rd2 ?_
              refine g_virtual (p := 98) (Qc := _) lk_113_60 rfl (Nat.le_of_ble_eq_true rfl) rfl rfl (lay.on (by decide) rfl) (Nat.le_of_ble_eq_true rfl) (Nat.le_of_ble_eq_true rfl) (by omega) (by omega) (wo) ?_
              rintro _ K1 ⟨rfl, lay1, hM1, s2, w2, hA2, hB2, ss, ww, sw, gg, g6⟩
              show Wp _ 113 63 [(2, ((87 : Nat) : Int)), (0, (g : Int)), (2, ((98 : Nat) : Int)), (0, (a : Int)), (0, (i : Int))] [(0, (bw : Int)), (0, (e.2.2.2.1 : Int)), (0, (a : Int))] K1 _ _ _
              refine g_iadd lk_113_63 ?_
              refine g_mmax lk_113_64 (by first | (unfold pm_inI; omega) | exact pm_and_in _ _ | exact pm_shr_in _ _ | exact pm_or_in _ _ | exact pm_xor_in _ _ | exact pm_shl_in _ _ | exact pm_cmp_in _ _ | exact pm_b8_in _ | (unfold pm_inI; split <;> omega)) (by first | (unfold pm_inI; omega) | exact pm_and_in _ _ | exact pm_shr_in _ _ | exact pm_or_in _ _ | exact pm_xor_in _ _ | exact pm_shl_in _ _ | exact pm_cmp_in _ _ | exact pm_b8_in _ | (unfold pm_inI; split <;> omega)) (Nat.le_of_ble_eq_true rfl) ?_
              refine g_istore_n (ls' := [(2, ((87 : Nat) : Int)), (0, (g : Int)), (2, ((98 : Nat) : Int)), (0, (max (a : Int) ((e.2.2.2.1 : Int) + (bw : Int)))), (0, (i : Int))]) lk_113_67 rfl rfl ?_
              refine g_goto (t := 103) lk_113_68 rfl ?_
              refine g_iinc (ls' := [(2, ((87 : Nat) : Int)), (0, (g : Int)), (2, ((98 : Nat) : Int)), (0, (max (a : Int) ((e.2.2.2.1 : Int) + (bw : Int)))), (0, ((i : Int) + 1))]) lk_113_103 rfl rfl rfl ?_
              refine g_goto (t := 5) lk_113_106 rfl ?_
              refine go _ _ _ _ s2 1 w2 1 (by rw [fi]; omega) lay1 hM1 hA2 hB2 (fun _ => rfl) (fun _ => rfl) (fun _ => rfl) ?_ ?_ sw (k7.tr2 gg (fun b hb => ?_)) (by rw [g6]; exact k8) (Or.inl rfl)
              · have := k7.1; rcases ss with z | z; rw [z]; exact k4; exact Or.inr (by omega)
              · have := k7.1; rcases ww with z | z; rw [z]; exact k5; exact Or.inr (by omega)
              · simp only [List.mem_cons, List.not_mem_nil, or_false] at hb ⊢
                rcases hb with z | z | z | z
                · exact Or.inl (Or.inl z)
                · rcases k4 with y | y; exact Or.inl (Or.inr (Or.inl (by omega))); exact Or.inr (by omega)
                · exact Or.inl (Or.inr (Or.inr (Or.inl z)))
                · rcases k5 with y | y; exact Or.inl (Or.inr (Or.inr (Or.inr (by omega)))); exact Or.inr (by omega)
      · rw [if_neg q1] at fi
        by_cases q3 : (ndA L i).1 = 0
        · rw [if_pos ⟨q3, q0⟩] at iu
          clear k9
          by_cases q4 : e.2.2.1 < g
          · rw [if_pos ⟨q3, q4⟩] at fi
            refine g_iload lk_113_5 rfl ?_
            refine g_aload_n lk_113_7 rfl ?_
            refine g_getfield lk_113_8 rfl (lay.on (by decide) rfl) (v := ((88 : Nat) : Int)) (lay.rf rfl) ?_
            refine m_getfield (u := []) (M := N) lk_113_11 rfl (lay.on (by decide) rfl) (v := (l : Int)) hct ?_
            refine g_icmp (t := 109) lk_113_14 rfl (by first | (unfold pm_inI; omega) | exact pm_and_in _ _ | exact pm_shr_in _ _ | exact pm_or_in _ _ | exact pm_xor_in _ _ | exact pm_shl_in _ _ | exact pm_cmp_in _ _ | exact pm_b8_in _ | (unfold pm_inI; split <;> omega)) (by first | (unfold pm_inI; omega) | exact pm_and_in _ _ | exact pm_shr_in _ _ | exact pm_or_in _ _ | exact pm_xor_in _ _ | exact pm_shl_in _ _ | exact pm_cmp_in _ _ | exact pm_b8_in _ | (unfold pm_inI; split <;> omega)) (fun h1 => ?_) (fun h1 => ?_)
            · replace h1 : (l : Int) ≤ (i : Int) := h1
              omega
            · replace h1 : ¬ ((l : Int) ≤ (i : Int)) := h1
              refine g_aload_n lk_113_17 rfl ?_
              refine g_iload lk_113_18 rfl ?_
              refine g_virtual (p := 87) (Qc := _) lk_113_20 rfl (Nat.le_of_ble_eq_true rfl) rfl rfl (lay.on (by decide) rfl) (Nat.le_of_ble_eq_true rfl) (Nat.le_of_ble_eq_true rfl) (Nat.zero_le _) (Nat.zero_le _) (ii) ?_
              rintro _ N2 ⟨rfl, hN2⟩
              rw [hN2]
              show Wp _ 113 23 [(2, ((87 : Nat) : Int)), (0, (g : Int)), (2, ((98 : Nat) : Int)), (0, (a : Int)), (0, (i : Int))] [(0, 0)] N _ _ _
              refine g_if (t := 71) lk_113_23 rfl (by first | (unfold pm_inI; omega) | exact pm_and_in _ _ | exact pm_shr_in _ _ | exact pm_or_in _ _ | exact pm_xor_in _ _ | exact pm_shl_in _ _ | exact pm_cmp_in _ _ | exact pm_b8_in _ | (unfold pm_inI; split <;> omega)) (fun h => absurd h (show ¬ (¬ (0 : Int) = (0 : Int)) by omega)) (fun _ => ?_)
              refine g_aload_n lk_113_26 rfl ?_
              refine g_getfield lk_113_27 rfl (lay.on (by decide) rfl) (v := ((94 : Nat) : Int)) (lay.rf rfl) ?_
              refine g_iload lk_113_30 rfl ?_
              refine m_iaload (u := []) (M := N) lk_113_32 (lay.ay (by decide) rfl) (by omega) (j := i) (by omega) (v := (e.2.2.1 : Int)) rd3 ?_
              refine g_iload_n lk_113_33 rfl ?_
              refine g_icmp (t := 71) lk_113_34 rfl (by first | (unfold pm_inI; omega) | exact pm_and_in _ _ | exact pm_shr_in _ _ | exact pm_or_in _ _ | exact pm_xor_in _ _ | exact pm_shl_in _ _ | exact pm_cmp_in _ _ | exact pm_b8_in _ | (unfold pm_inI; split <;> omega)) (by first | (unfold pm_inI; omega) | exact pm_and_in _ _ | exact pm_shr_in _ _ | exact pm_or_in _ _ | exact pm_xor_in _ _ | exact pm_shl_in _ _ | exact pm_cmp_in _ _ | exact pm_b8_in _ | (unfold pm_inI; split <;> omega)) (fun h3 => ?_) (fun h3 => ?_)
              · replace h3 : ¬ (e.2.2.1 : Int) = (g : Int) := h3
                refine g_aload_n lk_113_71 rfl ?_
                refine g_iload lk_113_72 rfl ?_
                refine g_virtual (p := 87) (Qc := _) lk_113_74 rfl (Nat.le_of_ble_eq_true rfl) rfl rfl (lay.on (by decide) rfl) (Nat.le_of_ble_eq_true rfl) (Nat.le_of_ble_eq_true rfl) (Nat.zero_le _) (Nat.zero_le _) (iu) ?_
                rintro _ N4 ⟨rfl, hN4⟩
                rw [hN4]
                show Wp _ 113 77 [(2, ((87 : Nat) : Int)), (0, (g : Int)), (2, ((98 : Nat) : Int)), (0, (a : Int)), (0, (i : Int))] [(0, 1)] N _ _ _
                refine g_if (t := 103) lk_113_77 rfl (by first | (unfold pm_inI; omega) | exact pm_and_in _ _ | exact pm_shr_in _ _ | exact pm_or_in _ _ | exact pm_xor_in _ _ | exact pm_shl_in _ _ | exact pm_cmp_in _ _ | exact pm_b8_in _ | (unfold pm_inI; split <;> omega)) (fun h => absurd h (show ¬ ((1 : Int) = (0 : Int)) by omega)) (fun _ => ?_)
                refine g_aload_n lk_113_80 rfl ?_
                refine g_getfield lk_113_81 rfl (lay.on (by decide) rfl) (v := ((94 : Nat) : Int)) (lay.rf rfl) ?_
                refine g_iload lk_113_84 rfl ?_
                refine m_iaload (u := []) (M := N) lk_113_86 (lay.ay (by decide) rfl) (by omega) (j := i) (by omega) (v := (e.2.2.1 : Int)) rd3 ?_
                refine g_iload_n lk_113_87 rfl ?_
                refine g_icmp (t := 103) lk_113_88 rfl (by first | (unfold pm_inI; omega) | exact pm_and_in _ _ | exact pm_shr_in _ _ | exact pm_or_in _ _ | exact pm_xor_in _ _ | exact pm_shl_in _ _ | exact pm_cmp_in _ _ | exact pm_b8_in _ | (unfold pm_inI; split <;> omega)) (by first | (unfold pm_inI; omega) | exact pm_and_in _ _ | exact pm_shr_in _ _ | exact pm_or_in _ _ | exact pm_xor_in _ _ | exact pm_shl_in _ _ | exact pm_cmp_in _ _ | exact pm_b8_in _ | (unfold pm_inI; split <;> omega)) (fun h5 => ?_) (fun h5 => ?_)
                · replace h5 : (g : Int) ≤ (e.2.2.1 : Int) := h5
                  refine g_iinc (ls' := [(2, ((87 : Nat) : Int)), (0, (g : Int)), (2, ((98 : Nat) : Int)), (0, (a : Int)), (0, ((i : Int) + 1))]) lk_113_103 rfl rfl rfl ?_
                  refine g_goto (t := 5) lk_113_106 rfl ?_
                  omega
                · replace h5 : ¬ ((g : Int) ≤ (e.2.2.1 : Int)) := h5
                  refine g_iload_n lk_113_91 rfl ?_
                  refine g_aload_n lk_113_92 rfl ?_
                  refine g_getfield lk_113_93 rfl (lay.on (by decide) rfl) (v := ((95 : Nat) : Int)) (lay.rf rfl) ?_
                  refine g_iload lk_113_96 rfl ?_
                  refine m_iaload (u := []) (M := N) lk_113_98 (lay.ay (by decide) rfl) (by omega) (j := i) (by omega) (v := (e.2.2.2.1 : Int)) rd4 ?_
                  refine g_mmax lk_113_99 (by first | (unfold pm_inI; omega) | exact pm_and_in _ _ | exact pm_shr_in _ _ | exact pm_or_in _ _ | exact pm_xor_in _ _ | exact pm_shl_in _ _ | exact pm_cmp_in _ _ | exact pm_b8_in _ | (unfold pm_inI; split <;> omega)) (by first | (unfold pm_inI; omega) | exact pm_and_in _ _ | exact pm_shr_in _ _ | exact pm_or_in _ _ | exact pm_xor_in _ _ | exact pm_shl_in _ _ | exact pm_cmp_in _ _ | exact pm_b8_in _ | (unfold pm_inI; split <;> omega)) (Nat.le_of_ble_eq_true rfl) ?_
                  refine g_istore_n (ls' := [(2, ((87 : Nat) : Int)), (0, (g : Int)), (2, ((98 : Nat) : Int)), (0, (max (a : Int) (e.2.2.2.1 : Int))), (0, (i : Int))]) lk_113_102 rfl rfl ?_
                  refine g_iinc (ls' := [(2, ((87 : Nat) : Int)), (0, (g : Int)), (2, ((98 : Nat) : Int)), (0, (max (a : Int) (e.2.2.2.1 : Int))), (0, ((i : Int) + 1))]) lk_113_103 rfl rfl rfl ?_
                  refine g_goto (t := 5) lk_113_106 rfl ?_
                  exact same _ (by rw [fi]; omega)
              · replace h3 : ¬ (¬ (e.2.2.1 : Int) = (g : Int)) := h3
                omega
          · rw [if_neg (fun z => q4 z.2)] at fi
            refine g_iload lk_113_5 rfl ?_
            refine g_aload_n lk_113_7 rfl ?_
            refine g_getfield lk_113_8 rfl (lay.on (by decide) rfl) (v := ((88 : Nat) : Int)) (lay.rf rfl) ?_
            refine m_getfield (u := []) (M := N) lk_113_11 rfl (lay.on (by decide) rfl) (v := (l : Int)) hct ?_
            refine g_icmp (t := 109) lk_113_14 rfl (by first | (unfold pm_inI; omega) | exact pm_and_in _ _ | exact pm_shr_in _ _ | exact pm_or_in _ _ | exact pm_xor_in _ _ | exact pm_shl_in _ _ | exact pm_cmp_in _ _ | exact pm_b8_in _ | (unfold pm_inI; split <;> omega)) (by first | (unfold pm_inI; omega) | exact pm_and_in _ _ | exact pm_shr_in _ _ | exact pm_or_in _ _ | exact pm_xor_in _ _ | exact pm_shl_in _ _ | exact pm_cmp_in _ _ | exact pm_b8_in _ | (unfold pm_inI; split <;> omega)) (fun h1 => ?_) (fun h1 => ?_)
            · replace h1 : (l : Int) ≤ (i : Int) := h1
              omega
            · replace h1 : ¬ ((l : Int) ≤ (i : Int)) := h1
              refine g_aload_n lk_113_17 rfl ?_
              refine g_iload lk_113_18 rfl ?_
              refine g_virtual (p := 87) (Qc := _) lk_113_20 rfl (Nat.le_of_ble_eq_true rfl) rfl rfl (lay.on (by decide) rfl) (Nat.le_of_ble_eq_true rfl) (Nat.le_of_ble_eq_true rfl) (Nat.zero_le _) (Nat.zero_le _) (ii) ?_
              rintro _ N2 ⟨rfl, hN2⟩
              rw [hN2]
              show Wp _ 113 23 [(2, ((87 : Nat) : Int)), (0, (g : Int)), (2, ((98 : Nat) : Int)), (0, (a : Int)), (0, (i : Int))] [(0, 0)] N _ _ _
              refine g_if (t := 71) lk_113_23 rfl (by first | (unfold pm_inI; omega) | exact pm_and_in _ _ | exact pm_shr_in _ _ | exact pm_or_in _ _ | exact pm_xor_in _ _ | exact pm_shl_in _ _ | exact pm_cmp_in _ _ | exact pm_b8_in _ | (unfold pm_inI; split <;> omega)) (fun h => absurd h (show ¬ (¬ (0 : Int) = (0 : Int)) by omega)) (fun _ => ?_)
              refine g_aload_n lk_113_26 rfl ?_
              refine g_getfield lk_113_27 rfl (lay.on (by decide) rfl) (v := ((94 : Nat) : Int)) (lay.rf rfl) ?_
              refine g_iload lk_113_30 rfl ?_
              refine m_iaload (u := []) (M := N) lk_113_32 (lay.ay (by decide) rfl) (by omega) (j := i) (by omega) (v := (e.2.2.1 : Int)) rd3 ?_
              refine g_iload_n lk_113_33 rfl ?_
              refine g_icmp (t := 71) lk_113_34 rfl (by first | (unfold pm_inI; omega) | exact pm_and_in _ _ | exact pm_shr_in _ _ | exact pm_or_in _ _ | exact pm_xor_in _ _ | exact pm_shl_in _ _ | exact pm_cmp_in _ _ | exact pm_b8_in _ | (unfold pm_inI; split <;> omega)) (by first | (unfold pm_inI; omega) | exact pm_and_in _ _ | exact pm_shr_in _ _ | exact pm_or_in _ _ | exact pm_xor_in _ _ | exact pm_shl_in _ _ | exact pm_cmp_in _ _ | exact pm_b8_in _ | (unfold pm_inI; split <;> omega)) (fun h3 => ?_) (fun h3 => ?_)
              · replace h3 : ¬ (e.2.2.1 : Int) = (g : Int) := h3
                refine g_aload_n lk_113_71 rfl ?_
                refine g_iload lk_113_72 rfl ?_
                refine g_virtual (p := 87) (Qc := _) lk_113_74 rfl (Nat.le_of_ble_eq_true rfl) rfl rfl (lay.on (by decide) rfl) (Nat.le_of_ble_eq_true rfl) (Nat.le_of_ble_eq_true rfl) (Nat.zero_le _) (Nat.zero_le _) (iu) ?_
                rintro _ N4 ⟨rfl, hN4⟩
                rw [hN4]
                show Wp _ 113 77 [(2, ((87 : Nat) : Int)), (0, (g : Int)), (2, ((98 : Nat) : Int)), (0, (a : Int)), (0, (i : Int))] [(0, 1)] N _ _ _
                refine g_if (t := 103) lk_113_77 rfl (by first | (unfold pm_inI; omega) | exact pm_and_in _ _ | exact pm_shr_in _ _ | exact pm_or_in _ _ | exact pm_xor_in _ _ | exact pm_shl_in _ _ | exact pm_cmp_in _ _ | exact pm_b8_in _ | (unfold pm_inI; split <;> omega)) (fun h => absurd h (show ¬ ((1 : Int) = (0 : Int)) by omega)) (fun _ => ?_)
                refine g_aload_n lk_113_80 rfl ?_
                refine g_getfield lk_113_81 rfl (lay.on (by decide) rfl) (v := ((94 : Nat) : Int)) (lay.rf rfl) ?_
                refine g_iload lk_113_84 rfl ?_
                refine m_iaload (u := []) (M := N) lk_113_86 (lay.ay (by decide) rfl) (by omega) (j := i) (by omega) (v := (e.2.2.1 : Int)) rd3 ?_
                refine g_iload_n lk_113_87 rfl ?_
                refine g_icmp (t := 103) lk_113_88 rfl (by first | (unfold pm_inI; omega) | exact pm_and_in _ _ | exact pm_shr_in _ _ | exact pm_or_in _ _ | exact pm_xor_in _ _ | exact pm_shl_in _ _ | exact pm_cmp_in _ _ | exact pm_b8_in _ | (unfold pm_inI; split <;> omega)) (by first | (unfold pm_inI; omega) | exact pm_and_in _ _ | exact pm_shr_in _ _ | exact pm_or_in _ _ | exact pm_xor_in _ _ | exact pm_shl_in _ _ | exact pm_cmp_in _ _ | exact pm_b8_in _ | (unfold pm_inI; split <;> omega)) (fun h5 => ?_) (fun h5 => ?_)
                · replace h5 : (g : Int) ≤ (e.2.2.1 : Int) := h5
                  refine g_iinc (ls' := [(2, ((87 : Nat) : Int)), (0, (g : Int)), (2, ((98 : Nat) : Int)), (0, (a : Int)), (0, ((i : Int) + 1))]) lk_113_103 rfl rfl rfl ?_
                  refine g_goto (t := 5) lk_113_106 rfl ?_
                  exact same _ (by rw [fi]; omega)
                · replace h5 : ¬ ((g : Int) ≤ (e.2.2.1 : Int)) := h5
                  refine g_iload_n lk_113_91 rfl ?_
                  refine g_aload_n lk_113_92 rfl ?_
                  refine g_getfield lk_113_93 rfl (lay.on (by decide) rfl) (v := ((95 : Nat) : Int)) (lay.rf rfl) ?_
                  refine g_iload lk_113_96 rfl ?_
                  refine m_iaload (u := []) (M := N) lk_113_98 (lay.ay (by decide) rfl) (by omega) (j := i) (by omega) (v := (e.2.2.2.1 : Int)) rd4 ?_
                  refine g_mmax lk_113_99 (by first | (unfold pm_inI; omega) | exact pm_and_in _ _ | exact pm_shr_in _ _ | exact pm_or_in _ _ | exact pm_xor_in _ _ | exact pm_shl_in _ _ | exact pm_cmp_in _ _ | exact pm_b8_in _ | (unfold pm_inI; split <;> omega)) (by first | (unfold pm_inI; omega) | exact pm_and_in _ _ | exact pm_shr_in _ _ | exact pm_or_in _ _ | exact pm_xor_in _ _ | exact pm_shl_in _ _ | exact pm_cmp_in _ _ | exact pm_b8_in _ | (unfold pm_inI; split <;> omega)) (Nat.le_of_ble_eq_true rfl) ?_
                  refine g_istore_n (ls' := [(2, ((87 : Nat) : Int)), (0, (g : Int)), (2, ((98 : Nat) : Int)), (0, (max (a : Int) (e.2.2.2.1 : Int))), (0, (i : Int))]) lk_113_102 rfl rfl ?_
                  refine g_iinc (ls' := [(2, ((87 : Nat) : Int)), (0, (g : Int)), (2, ((98 : Nat) : Int)), (0, (max (a : Int) (e.2.2.2.1 : Int))), (0, ((i : Int) + 1))]) lk_113_103 rfl rfl rfl ?_
                  refine g_goto (t := 5) lk_113_106 rfl ?_
                  omega
              · replace h3 : ¬ (¬ (e.2.2.1 : Int) = (g : Int)) := h3
                omega
        · rw [if_neg (fun z => q3 z.1)] at iu
          rw [if_neg (fun z => q3 z.1)] at fi
          clear k9
          refine g_iload lk_113_5 rfl ?_
          refine g_aload_n lk_113_7 rfl ?_
          refine g_getfield lk_113_8 rfl (lay.on (by decide) rfl) (v := ((88 : Nat) : Int)) (lay.rf rfl) ?_
          refine m_getfield (u := []) (M := N) lk_113_11 rfl (lay.on (by decide) rfl) (v := (l : Int)) hct ?_
          refine g_icmp (t := 109) lk_113_14 rfl (by first | (unfold pm_inI; omega) | exact pm_and_in _ _ | exact pm_shr_in _ _ | exact pm_or_in _ _ | exact pm_xor_in _ _ | exact pm_shl_in _ _ | exact pm_cmp_in _ _ | exact pm_b8_in _ | (unfold pm_inI; split <;> omega)) (by first | (unfold pm_inI; omega) | exact pm_and_in _ _ | exact pm_shr_in _ _ | exact pm_or_in _ _ | exact pm_xor_in _ _ | exact pm_shl_in _ _ | exact pm_cmp_in _ _ | exact pm_b8_in _ | (unfold pm_inI; split <;> omega)) (fun h1 => ?_) (fun h1 => ?_)
          · replace h1 : (l : Int) ≤ (i : Int) := h1
            omega
          · replace h1 : ¬ ((l : Int) ≤ (i : Int)) := h1
            refine g_aload_n lk_113_17 rfl ?_
            refine g_iload lk_113_18 rfl ?_
            refine g_virtual (p := 87) (Qc := _) lk_113_20 rfl (Nat.le_of_ble_eq_true rfl) rfl rfl (lay.on (by decide) rfl) (Nat.le_of_ble_eq_true rfl) (Nat.le_of_ble_eq_true rfl) (Nat.zero_le _) (Nat.zero_le _) (ii) ?_
            rintro _ N2 ⟨rfl, hN2⟩
            rw [hN2]
            show Wp _ 113 23 [(2, ((87 : Nat) : Int)), (0, (g : Int)), (2, ((98 : Nat) : Int)), (0, (a : Int)), (0, (i : Int))] [(0, 0)] N _ _ _
            refine g_if (t := 71) lk_113_23 rfl (by first | (unfold pm_inI; omega) | exact pm_and_in _ _ | exact pm_shr_in _ _ | exact pm_or_in _ _ | exact pm_xor_in _ _ | exact pm_shl_in _ _ | exact pm_cmp_in _ _ | exact pm_b8_in _ | (unfold pm_inI; split <;> omega)) (fun h => absurd h (show ¬ (¬ (0 : Int) = (0 : Int)) by omega)) (fun _ => ?_)
            refine g_aload_n lk_113_26 rfl ?_
            refine g_getfield lk_113_27 rfl (lay.on (by decide) rfl) (v := ((94 : Nat) : Int)) (lay.rf rfl) ?_
            refine g_iload lk_113_30 rfl ?_
            refine m_iaload (u := []) (M := N) lk_113_32 (lay.ay (by decide) rfl) (by omega) (j := i) (by omega) (v := (e.2.2.1 : Int)) rd3 ?_
            refine g_iload_n lk_113_33 rfl ?_
            refine g_icmp (t := 71) lk_113_34 rfl (by first | (unfold pm_inI; omega) | exact pm_and_in _ _ | exact pm_shr_in _ _ | exact pm_or_in _ _ | exact pm_xor_in _ _ | exact pm_shl_in _ _ | exact pm_cmp_in _ _ | exact pm_b8_in _ | (unfold pm_inI; split <;> omega)) (by first | (unfold pm_inI; omega) | exact pm_and_in _ _ | exact pm_shr_in _ _ | exact pm_or_in _ _ | exact pm_xor_in _ _ | exact pm_shl_in _ _ | exact pm_cmp_in _ _ | exact pm_b8_in _ | (unfold pm_inI; split <;> omega)) (fun h3 => ?_) (fun h3 => ?_)
            · replace h3 : ¬ (e.2.2.1 : Int) = (g : Int) := h3
              refine g_aload_n lk_113_71 rfl ?_
              refine g_iload lk_113_72 rfl ?_
              refine g_virtual (p := 87) (Qc := _) lk_113_74 rfl (Nat.le_of_ble_eq_true rfl) rfl rfl (lay.on (by decide) rfl) (Nat.le_of_ble_eq_true rfl) (Nat.le_of_ble_eq_true rfl) (Nat.zero_le _) (Nat.zero_le _) (iu) ?_
              rintro _ N4 ⟨rfl, hN4⟩
              rw [hN4]
              show Wp _ 113 77 [(2, ((87 : Nat) : Int)), (0, (g : Int)), (2, ((98 : Nat) : Int)), (0, (a : Int)), (0, (i : Int))] [(0, 0)] N _ _ _
              refine g_if (t := 103) lk_113_77 rfl (by first | (unfold pm_inI; omega) | exact pm_and_in _ _ | exact pm_shr_in _ _ | exact pm_or_in _ _ | exact pm_xor_in _ _ | exact pm_shl_in _ _ | exact pm_cmp_in _ _ | exact pm_b8_in _ | (unfold pm_inI; split <;> omega)) (fun _ => ?_) (fun h => absurd (show (0 : Int) = (0 : Int) by omega) h)
              refine g_iinc (ls' := [(2, ((87 : Nat) : Int)), (0, (g : Int)), (2, ((98 : Nat) : Int)), (0, (a : Int)), (0, ((i : Int) + 1))]) lk_113_103 rfl rfl rfl ?_
              refine g_goto (t := 5) lk_113_106 rfl ?_
              exact same _ (by rw [fi]; omega)
            · replace h3 : ¬ (¬ (e.2.2.1 : Int) = (g : Int)) := h3
              omega
  show Wp (d + 5) 113 0 [(2, ((87 : Nat) : Int)), (0, (g : Int)), (2, ((98 : Nat) : Int)), (9, 0), (9, 0)] [] M mc ms Q
  refine g_iconst lk_113_0 ?_
  refine g_istore_n (ls' := [(2, ((87 : Nat) : Int)), (0, (g : Int)), (2, ((98 : Nat) : Int)), (0, 0), (9, 0)]) lk_113_1 rfl rfl ?_
  refine g_iconst lk_113_2 ?_
  refine g_istore (ls' := [(2, ((87 : Nat) : Int)), (0, (g : Int)), (2, ((98 : Nat) : Int)), (0, 0), (0, 0)]) lk_113_3 rfl rfl ?_
  exact loop l 0 M mc ms s fa w f (by omega) lay0 hM0 hA0 hB0 hff (fun z => z) (fun z => z) (Or.inl rfl) (Or.inl rfl) hsw (Gr.refl _ _) rfl (Or.inr ⟨b1, b2⟩)
