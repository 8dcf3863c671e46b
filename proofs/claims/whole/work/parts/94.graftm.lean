/-! ===== apart, graft: the model ===== -/
set_option maxHeartbeats 8000000 in
theorem c_Mo_apart {d mc ms : Nat} {M : pm_M} (lay0 : Lay M) {T : Tab} (hT : TabOK T) (hM0 : MoAt M T) {Ts : List (List Nd)} {ps dps : Nat → Nat → Nat} (hTs0 : TsMX M Ts ps dps) {t u : Int} (ht : pm_inI t) (hu : pm_inI u) :
    pm_E (d + 2) 259 [(2, ((116 : Nat) : Int)), (0, t), (0, u)] M mc ms (fun ρ M' => ρ = some (0, sApart T Ts t u) ∧ Lay M' ∧ MF [151, 152] [0, 59, 60, 61] M M') := by
  have th := MF.th (S := [151, 152]) (K := [0, 59, 60, 61]) (by decide) M
  have mo := hM0.mf th (by decide) (by decide) (by decide) (by decide)
  have ts := hTs0.mf th (by decide) (by decide) (by decide) (by decide) (by decide)
  have it := fun l => c_Mo_isTree (d := d) (mc := 0) (ms := 0) (M := Mu [(116, pm_upd (pm_ct M 116) 0 0)] M) l ts.at ht
  have iu := fun l => c_Mo_isTree (d := d) (mc := 0) (ms := 0) (M := Mu [(116, pm_upd (pm_ct M 116) 0 0)] M) l ts.at hu
  have l4 := hTs0.1
  have hR := hT.1
  have hC := hT.2.1
  show Wp (d + 2) 259 0 [(2, ((116 : Nat) : Int)), (0, t), (0, u), (9, 0), (9, 0), (9, 0), (9, 0)] [] M mc ms _
  by_cases e1 : 0 ≤ t ∧ t < (Ts.length : Int)
  · rw [if_pos e1] at it
    by_cases e2 : 0 ≤ u ∧ u < (Ts.length : Int)
    · rw [if_pos e2] at iu
      have es : sApart T Ts t u = (s2 T (unl (Ts.getD t.toNat []) (Ts.getD u.toNat [])) : Int) := by unfold sApart; rw [if_pos ⟨e1, e2⟩]
      rw [es]
      obtain ⟨t, rfl⟩ := Int.eq_ofNat_of_zero_le e1.1
      obtain ⟨u, rfl⟩ := Int.eq_ofNat_of_zero_le e2.1
      rw [Int.toNat_natCast, Int.toNat_natCast]
      obtain ⟨tm1, hD1, _⟩ := hTs0.2.2 t (by omega)
      obtain ⟨tm2, hD2, _⟩ := hTs0.2.2 u (by omega)
      obtain ⟨L, hL⟩ : ∃ L, L = Ts.getD t [] := ⟨_, rfl⟩
      obtain ⟨L', hL'⟩ : ∃ L, L = Ts.getD u [] := ⟨_, rfl⟩
      rw [← hL] at tm1 hD1 ⊢
      rw [← hL'] at tm2 hD2 ⊢
      obtain ⟨Q, hQ⟩ : ∃ Q : pm_Q, Q = (fun ρ M' => ρ = some (0, (s2 T (unl L L') : Int)) ∧ Lay M' ∧ MF [151, 152] [0, 59, 60, 61] M M') := ⟨_, rfl⟩
      rw [← hQ]
      have l31 := hD1.2.1
      have l32 := hD2.2.1
      have mo' : ∀ {N : pm_M}, MF [151, 152] [0, 59, 60, 61] M N → MoAt N T := fun k => hM0.mf k (by decide) (by decide) (by decide) (by decide)
      have tr1 : ∀ {N : pm_M}, MF [151, 152] [0, 59, 60, 61] M N → TrM N t L := fun k => tm1.mf k (by decide) (by decide) (by decide) (by decide)
      have tr2 : ∀ {N : pm_M}, MF [151, 152] [0, 59, 60, 61] M N → TrM N u L' := fun k => tm2.mf k (by decide) (by decide) (by decide) (by decide)
      have mn2 : ∀ {N K : pm_M}, MF [151, 152] [59, 60, 61] N K → MF [151, 152] [0, 59, 60, 61] N K := fun k => k.mono (fun a q => q) (fun a q => by simp at q ⊢; omega)
      have inner : ∀ (r : Nat), r < tR T → (∀ (v6 : pm_V) (N : pm_M), Lay N → MF [151, 152] [0, 59, 60, 61] M N → Wp (d + 2) 259 28 [(2, ((116 : Nat) : Int)), (0, (t : Int)), (0, (u : Int)), (0, ((pS T (unl L L') (r + 1) 0 : Nat) : Int)), (0, ((r + 1 : Nat) : Int)), (0, (tC T : Int)), v6] [] N mc ms Q) → ∀ (n c : Nat) (v6 : pm_V) (N : pm_M), c + n = tC T → Lay N → MF [151, 152] [0, 59, 60, 61] M N → Wp (d + 2) 259 40 [(2, ((116 : Nat) : Int)), (0, (t : Int)), (0, (u : Int)), (0, ((pS T (unl L L') r c : Nat) : Int)), (0, (r : Int)), (0, (c : Int)), v6] [] N mc ms Q := by
        intro r hr go n
        induction n with
        | zero =>
          intro c v6 N hi lay mf
          have m2 := (mo' mf).2.1
          have e : c = tC T := by omega
          rw [e]
          refine g_iload lk_259_40 rfl ?_
          refine g_aload_n lk_259_42 rfl ?_
          refine m_getfield (u := []) (M := N) lk_259_43 rfl (lay.on (by decide) rfl) (v := (tC T : Int)) m2 ?_
          refine g_icmp (t := 108) lk_259_46 rfl (by first | (unfold pm_inI; omega) | exact pm_and_in _ _ | exact pm_shr_in _ _ | exact pm_or_in _ _ | exact pm_xor_in _ _ | exact pm_shl_in _ _ | exact pm_cmp_in _ _ | exact pm_b8_in _ | (unfold pm_inI; split <;> omega)) (by first | (unfold pm_inI; omega) | exact pm_and_in _ _ | exact pm_shr_in _ _ | exact pm_or_in _ _ | exact pm_xor_in _ _ | exact pm_shl_in _ _ | exact pm_cmp_in _ _ | exact pm_b8_in _ | (unfold pm_inI; split <;> omega)) (fun h1 => ?_) (fun h1 => ?_)
          · replace h1 : (tC T : Int) ≤ (tC T : Int) := h1
            refine g_iinc (ls' := [(2, ((116 : Nat) : Int)), (0, (t : Int)), (0, (u : Int)), (0, ((pS T (unl L L') r (tC T) : Nat) : Int)), (0, ((r : Int) + 1)), (0, (tC T : Int)), v6]) lk_259_108 rfl rfl rfl ?_
            refine g_goto (t := 28) lk_259_111 rfl ?_
            exact go v6 N lay mf
          · replace h1 : ¬ ((tC T : Int) ≤ (tC T : Int)) := h1
            omega
        | succ n ih =>
          intro c v6 N hi lay mf
          have moN := mo' mf
          have m2 := moN.2.1
          have w1 := (wy_leaf hD1 (r := r) (c := c) (n := 9) (k := 0) (by have := hD1.1; omega) (by omega)).2
          have w2 := (wy_leaf hD2 (r := r) (c := c) (n := 9) (k := 0) (by have := hD2.1; omega) (by omega)).2
          have gs := c_Mo_goes (d := d) (mc := 0) (ms := 0) lay hT moN hD1 (show t < 4 by omega) (tr1 mf) (r := r) (c := c) (by omega) (by omega)
          have gs2 := fun {K : pm_M} (l : Lay K) (m : MF [151, 152] [0, 59, 60, 61] M K) => c_Mo_goes (d := d) (mc := 0) (ms := 0) l hT (mo' m) hD2 (show u < 4 by omega) (tr2 m) (r := r) (c := c) (by omega) (by omega)
          have ul : unl L L' r c = if (ndA L (wy L r c 9 0)).2.1 = (ndA L' (wy L' r c 9 0)).2.1 then 0 else 1 := rfl
          obtain ⟨k1, hk1⟩ : ∃ w, w = wy L r c 9 0 := ⟨_, rfl⟩
          obtain ⟨k2, hk2⟩ : ∃ w, w = wy L' r c 9 0 := ⟨_, rfl⟩
          rw [← hk1] at w1 gs ul
          rw [← hk2] at w2 gs2 ul
          have rd1 := (tm1.2 k1 w1).2.1
          have rd2 := (tm2.2 k2 w2).2.1
          have b1 := (hD1.2.2.2 k1 w1).2.1
          have b2 := (hD2.2.2.2 k2 w2).2.1
          obtain ⟨j1, hj1⟩ : ∃ j, j = 31 * t + k1 := ⟨_, rfl⟩
          obtain ⟨j2, hj2⟩ : ∃ j, j = 31 * u + k2 := ⟨_, rfl⟩
          rw [← hj1] at rd1
          rw [← hj2] at rd2
          have ej1 : (31 : Int) * (t : Int) + (k1 : Int) = (j1 : Int) := by omega
          have ej2 : (31 : Int) * (u : Int) + (k2 : Int) = (j2 : Int) := by omega
          obtain ⟨x, hx⟩ : ∃ x, x = (ndA L k1).2.1 := ⟨_, rfl⟩
          obtain ⟨y, hy⟩ : ∃ x, x = (ndA L' k2).2.1 := ⟨_, rfl⟩
          rw [← hx] at rd1 ul b1
          rw [← hy] at rd2 ul b2
          have go2 : ∀ (z : Int) (v6 : pm_V) (K : pm_M), Lay K → MF [151, 152] [0, 59, 60, 61] M K → z = ((pS T (unl L L') r c + unl L L' r c : Nat) : Int) → Wp (d + 2) 259 40 [(2, ((116 : Nat) : Int)), (0, (t : Int)), (0, (u : Int)), (0, z), (0, (r : Int)), (0, (c : Int) + 1), v6] [] K mc ms Q := fun z v6 K l m hz => by
            rw [hz, ← pS_s]; exact ih (c + 1) v6 K (by omega) l m
          clear ih go
          refine g_iload lk_259_40 rfl ?_
          refine g_aload_n lk_259_42 rfl ?_
          refine m_getfield (u := []) (M := N) lk_259_43 rfl (lay.on (by decide) rfl) (v := (tC T : Int)) m2 ?_
          refine g_icmp (t := 108) lk_259_46 rfl (by first | (unfold pm_inI; omega) | exact pm_and_in _ _ | exact pm_shr_in _ _ | exact pm_or_in _ _ | exact pm_xor_in _ _ | exact pm_shl_in _ _ | exact pm_cmp_in _ _ | exact pm_b8_in _ | (unfold pm_inI; split <;> omega)) (by first | (unfold pm_inI; omega) | exact pm_and_in _ _ | exact pm_shr_in _ _ | exact pm_or_in _ _ | exact pm_xor_in _ _ | exact pm_shl_in _ _ | exact pm_cmp_in _ _ | exact pm_b8_in _ | (unfold pm_inI; split <;> omega)) (fun h1 => ?_) (fun h1 => ?_)
          · replace h1 : (tC T : Int) ≤ (c : Int) := h1
            omega
          · replace h1 : ¬ ((tC T : Int) ≤ (c : Int)) := h1
            refine g_aload_n lk_259_49 rfl ?_
            refine g_getfield lk_259_50 rfl (lay.on (by decide) rfl) (v := ((124 : Nat) : Int)) (lay.rf rfl) ?_
            refine g_bipush lk_259_53 ?_
            refine g_iload_n lk_259_55 rfl ?_
            refine g_imul lk_259_56 ?_
            refine g_aload_n lk_259_57 rfl ?_
            refine g_iload_n lk_259_58 rfl ?_
            refine g_iload lk_259_59 rfl ?_
            refine g_iload lk_259_61 rfl ?_
            refine g_virtual (p := 116) (Qc := _) lk_259_63 rfl (Nat.le_of_ble_eq_true rfl) rfl rfl (lay.on (by decide) rfl) (Nat.le_of_ble_eq_true rfl) (Nat.le_of_ble_eq_true rfl) (Nat.zero_le _) (Nat.zero_le _) (gs) ?_
            rintro _ K1 ⟨rfl, lay1, mf1, -⟩
            have mfa := mf.trans (mn2 mf1)
            have r1 : pm_ct K1 124 j1 = (x : Int) := (by rw [mfa.ct (by decide) (by decide)]; exact rd1)
            show Wp _ 259 66 [(2, ((116 : Nat) : Int)), (0, (t : Int)), (0, (u : Int)), (0, ((pS T (unl L L') r c : Nat) : Int)), (0, (r : Int)), (0, (c : Int)), v6] [(0, (k1 : Int)), (0, (31 * (t : Int))), (2, ((124 : Nat) : Int))] K1 _ _ _
            refine g_iadd lk_259_66 ?_
            refine g_top (z := ((31 * (t : Int)) + (k1 : Int))) (z' := (j1 : Int)) (ej1) ?_
            refine m_iaload (u := []) (M := K1) lk_259_67 (lay1.ay (by decide) rfl) (by omega) (j := j1) (by omega) (v := (x : Int)) r1 ?_
            refine g_istore (ls' := [(2, ((116 : Nat) : Int)), (0, (t : Int)), (0, (u : Int)), (0, ((pS T (unl L L') r c : Nat) : Int)), (0, (r : Int)), (0, (c : Int)), (0, (x : Int))]) lk_259_68 rfl rfl ?_
            refine g_iload_n lk_259_70 rfl ?_
            refine g_iload lk_259_71 rfl ?_
            refine g_aload_n lk_259_73 rfl ?_
            refine g_getfield lk_259_74 rfl (lay1.on (by decide) rfl) (v := ((124 : Nat) : Int)) (lay1.rf rfl) ?_
            refine g_bipush lk_259_77 ?_
            refine g_iload_n lk_259_79 rfl ?_
            refine g_imul lk_259_80 ?_
            refine g_aload_n lk_259_81 rfl ?_
            refine g_iload_n lk_259_82 rfl ?_
            refine g_iload lk_259_83 rfl ?_
            refine g_iload lk_259_85 rfl ?_
            refine g_virtual (p := 116) (Qc := _) lk_259_87 rfl (Nat.le_of_ble_eq_true rfl) rfl rfl (lay1.on (by decide) rfl) (Nat.le_of_ble_eq_true rfl) (Nat.le_of_ble_eq_true rfl) (Nat.zero_le _) (Nat.zero_le _) (gs2 lay1 mfa) ?_
            rintro _ K2 ⟨rfl, lay2, mf2, -⟩
            have mfb := mfa.trans (mn2 mf2)
            have r2 : pm_ct K2 124 j2 = (y : Int) := (by rw [mfb.ct (by decide) (by decide)]; exact rd2)
            show Wp _ 259 90 [(2, ((116 : Nat) : Int)), (0, (t : Int)), (0, (u : Int)), (0, ((pS T (unl L L') r c : Nat) : Int)), (0, (r : Int)), (0, (c : Int)), (0, (x : Int))] [(0, (k2 : Int)), (0, (31 * (u : Int))), (2, ((124 : Nat) : Int)), (0, (x : Int)), (0, ((pS T (unl L L') r c : Nat) : Int))] K2 _ _ _
            refine g_iadd lk_259_90 ?_
            refine g_top (z := ((31 * (u : Int)) + (k2 : Int))) (z' := (j2 : Int)) (ej2) ?_
            refine m_iaload (u := []) (M := K2) lk_259_91 (lay2.ay (by decide) rfl) (by omega) (j := j2) (by omega) (v := (y : Int)) r2 ?_
            refine g_icmp (t := 99) lk_259_92 rfl (by first | (unfold pm_inI; omega) | exact pm_and_in _ _ | exact pm_shr_in _ _ | exact pm_or_in _ _ | exact pm_xor_in _ _ | exact pm_shl_in _ _ | exact pm_cmp_in _ _ | exact pm_b8_in _ | (unfold pm_inI; split <;> omega)) (by first | (unfold pm_inI; omega) | exact pm_and_in _ _ | exact pm_shr_in _ _ | exact pm_or_in _ _ | exact pm_xor_in _ _ | exact pm_shl_in _ _ | exact pm_cmp_in _ _ | exact pm_b8_in _ | (unfold pm_inI; split <;> omega)) (fun h2 => ?_) (fun h2 => ?_)
            · replace h2 : (x : Int) = (y : Int) := h2
              refine g_iconst lk_259_99 ?_
              refine g_iadd lk_259_100 ?_
              refine g_istore_n (ls' := [(2, ((116 : Nat) : Int)), (0, (t : Int)), (0, (u : Int)), (0, (((pS T (unl L L') r c : Nat) : Int) + 0)), (0, (r : Int)), (0, (c : Int)), (0, (x : Int))]) lk_259_101 rfl rfl ?_
              refine g_iinc (ls' := [(2, ((116 : Nat) : Int)), (0, (t : Int)), (0, (u : Int)), (0, (((pS T (unl L L') r c : Nat) : Int) + 0)), (0, (r : Int)), (0, ((c : Int) + 1)), (0, (x : Int))]) lk_259_102 rfl rfl rfl ?_
              refine g_goto (t := 40) lk_259_105 rfl ?_
              exact go2 _ _ _ lay2 mfb (by rw [ul, if_pos (by omega)]; omega)
            · replace h2 : ¬ ((x : Int) = (y : Int)) := h2
              refine g_iconst lk_259_95 ?_
              refine g_goto (t := 100) lk_259_96 rfl ?_
              refine g_iadd lk_259_100 ?_
              refine g_istore_n (ls' := [(2, ((116 : Nat) : Int)), (0, (t : Int)), (0, (u : Int)), (0, (((pS T (unl L L') r c : Nat) : Int) + 1)), (0, (r : Int)), (0, (c : Int)), (0, (x : Int))]) lk_259_101 rfl rfl ?_
              refine g_iinc (ls' := [(2, ((116 : Nat) : Int)), (0, (t : Int)), (0, (u : Int)), (0, (((pS T (unl L L') r c : Nat) : Int) + 1)), (0, (r : Int)), (0, ((c : Int) + 1)), (0, (x : Int))]) lk_259_102 rfl rfl rfl ?_
              refine g_goto (t := 40) lk_259_105 rfl ?_
              exact go2 _ _ _ lay2 mfb (by rw [ul, if_neg (by omega)]; omega)
      have outer : ∀ (n r : Nat) (v5 v6 : pm_V) (N : pm_M), r + n = tR T → Lay N → MF [151, 152] [0, 59, 60, 61] M N → Wp (d + 2) 259 28 [(2, ((116 : Nat) : Int)), (0, (t : Int)), (0, (u : Int)), (0, ((pS T (unl L L') r 0 : Nat) : Int)), (0, (r : Int)), v5, v6] [] N mc ms Q := by
        intro n
        induction n with
        | zero =>
          intro r v5 v6 N hi lay mf
          have m1 := (mo' mf).1
          have e : r = tR T := by omega
          rw [e]
          refine g_iload lk_259_28 rfl ?_
          refine g_aload_n lk_259_30 rfl ?_
          refine m_getfield (u := []) (M := N) lk_259_31 rfl (lay.on (by decide) rfl) (v := (tR T : Int)) m1 ?_
          refine g_icmp (t := 114) lk_259_34 rfl (by first | (unfold pm_inI; omega) | exact pm_and_in _ _ | exact pm_shr_in _ _ | exact pm_or_in _ _ | exact pm_xor_in _ _ | exact pm_shl_in _ _ | exact pm_cmp_in _ _ | exact pm_b8_in _ | (unfold pm_inI; split <;> omega)) (by first | (unfold pm_inI; omega) | exact pm_and_in _ _ | exact pm_shr_in _ _ | exact pm_or_in _ _ | exact pm_xor_in _ _ | exact pm_shl_in _ _ | exact pm_cmp_in _ _ | exact pm_b8_in _ | (unfold pm_inI; split <;> omega)) (fun h1 => ?_) (fun h1 => ?_)
          · replace h1 : (tR T : Int) ≤ (tR T : Int) := h1
            refine g_iload_n lk_259_114 rfl ?_
            refine g_ireturn lk_259_115 (fun h => absurd h (by decide)) ?_
            rw [hQ]
            exact ⟨by rw [pS_e], lay, mf⟩
          · replace h1 : ¬ ((tR T : Int) ≤ (tR T : Int)) := h1
            omega
        | succ n ih =>
          intro r v5 v6 N hi lay mf
          have m1 := (mo' mf).1
          refine g_iload lk_259_28 rfl ?_
          refine g_aload_n lk_259_30 rfl ?_
          refine m_getfield (u := []) (M := N) lk_259_31 rfl (lay.on (by decide) rfl) (v := (tR T : Int)) m1 ?_
          refine g_icmp (t := 114) lk_259_34 rfl (by first | (unfold pm_inI; omega) | exact pm_and_in _ _ | exact pm_shr_in _ _ | exact pm_or_in _ _ | exact pm_xor_in _ _ | exact pm_shl_in _ _ | exact pm_cmp_in _ _ | exact pm_b8_in _ | (unfold pm_inI; split <;> omega)) (by first | (unfold pm_inI; omega) | exact pm_and_in _ _ | exact pm_shr_in _ _ | exact pm_or_in _ _ | exact pm_xor_in _ _ | exact pm_shl_in _ _ | exact pm_cmp_in _ _ | exact pm_b8_in _ | (unfold pm_inI; split <;> omega)) (fun h1 => ?_) (fun h1 => ?_)
          · replace h1 : (tR T : Int) ≤ (r : Int) := h1
            omega
          · replace h1 : ¬ ((tR T : Int) ≤ (r : Int)) := h1
            refine g_iconst lk_259_37 ?_
            refine g_istore (ls' := [(2, ((116 : Nat) : Int)), (0, (t : Int)), (0, (u : Int)), (0, ((pS T (unl L L') r 0 : Nat) : Int)), (0, (r : Int)), (0, 0), v6]) lk_259_38 rfl rfl ?_
            exact inner r (by omega) (fun v6 N l m => ih (r + 1) _ v6 N (by omega) l m) (tC T) 0 v6 N (by omega) lay mf
      refine g_aload_n lk_259_0 rfl ?_
      refine g_iconst lk_259_1 ?_
      have lay1 : Lay (Mu [(116, pm_upd (pm_ct M 116) 0 0)] M) := lay0.muF (l := []) (a := 116) (k := 0) (z := 0) rfl rfl
      refine m_putfield (u := []) (u' := [(116, pm_upd (pm_ct M 116) 0 0)]) (M := M) lk_259_2 rfl (lay0.on (by decide) rfl) (fun h => absurd h (by decide)) rfl ?_
      refine g_aload_n lk_259_5 rfl ?_
      refine g_iload_n lk_259_6 rfl ?_
      refine g_virtual (p := 116) (Qc := _) lk_259_7 rfl (Nat.le_of_ble_eq_true rfl) rfl rfl (lay1.on (by decide) rfl) (Nat.le_of_ble_eq_true rfl) (Nat.le_of_ble_eq_true rfl) (Nat.zero_le _) (Nat.zero_le _) (it lay1) ?_
      rintro _ N2 ⟨rfl, hN2⟩
      rw [hN2]
      show Wp _ 259 10 [(2, ((116 : Nat) : Int)), (0, (t : Int)), (0, (u : Int)), (9, 0), (9, 0), (9, 0), (9, 0)] [(0, 1)] (Mu [(116, pm_upd (pm_ct M 116) 0 0)] M) _ _ _
      refine g_if (t := 21) lk_259_10 rfl (by first | (unfold pm_inI; omega) | exact pm_and_in _ _ | exact pm_shr_in _ _ | exact pm_or_in _ _ | exact pm_xor_in _ _ | exact pm_shl_in _ _ | exact pm_cmp_in _ _ | exact pm_b8_in _ | (unfold pm_inI; split <;> omega)) (fun h => absurd h (show ¬ ((1 : Int) = (0 : Int)) by omega)) (fun _ => ?_)
      refine g_aload_n lk_259_13 rfl ?_
      refine g_iload_n lk_259_14 rfl ?_
      refine g_virtual (p := 116) (Qc := _) lk_259_15 rfl (Nat.le_of_ble_eq_true rfl) rfl rfl (lay1.on (by decide) rfl) (Nat.le_of_ble_eq_true rfl) (Nat.le_of_ble_eq_true rfl) (Nat.zero_le _) (Nat.zero_le _) (iu lay1) ?_
      rintro _ N3 ⟨rfl, hN3⟩
      rw [hN3]
      show Wp _ 259 18 [(2, ((116 : Nat) : Int)), (0, (t : Int)), (0, (u : Int)), (9, 0), (9, 0), (9, 0), (9, 0)] [(0, 1)] (Mu [(116, pm_upd (pm_ct M 116) 0 0)] M) _ _ _
      refine g_if (t := 23) lk_259_18 rfl (by first | (unfold pm_inI; omega) | exact pm_and_in _ _ | exact pm_shr_in _ _ | exact pm_or_in _ _ | exact pm_xor_in _ _ | exact pm_shl_in _ _ | exact pm_cmp_in _ _ | exact pm_b8_in _ | (unfold pm_inI; split <;> omega)) (fun _ => ?_) (fun h => absurd (show ¬ (1 : Int) = (0 : Int) by omega) h)
      refine g_iconst lk_259_23 ?_
      refine g_istore_n (ls' := [(2, ((116 : Nat) : Int)), (0, (t : Int)), (0, (u : Int)), (0, 0), (9, 0), (9, 0), (9, 0)]) lk_259_24 rfl rfl ?_
      refine g_iconst lk_259_25 ?_
      refine g_istore (ls' := [(2, ((116 : Nat) : Int)), (0, (t : Int)), (0, (u : Int)), (0, 0), (0, 0), (9, 0), (9, 0)]) lk_259_26 rfl rfl ?_
      exact outer (tR T) 0 _ _ _ (by omega) lay1 th
    · rw [if_neg e2] at iu
      have es : sApart T Ts t u = -1 := by unfold sApart; rw [if_neg (fun z => e2 z.2)]
      rw [es]
      refine g_aload_n lk_259_0 rfl ?_
      refine g_iconst lk_259_1 ?_
      have lay1 : Lay (Mu [(116, pm_upd (pm_ct M 116) 0 0)] M) := lay0.muF (l := []) (a := 116) (k := 0) (z := 0) rfl rfl
      refine m_putfield (u := []) (u' := [(116, pm_upd (pm_ct M 116) 0 0)]) (M := M) lk_259_2 rfl (lay0.on (by decide) rfl) (fun h => absurd h (by decide)) rfl ?_
      refine g_aload_n lk_259_5 rfl ?_
      refine g_iload_n lk_259_6 rfl ?_
      refine g_virtual (p := 116) (Qc := _) lk_259_7 rfl (Nat.le_of_ble_eq_true rfl) rfl rfl (lay1.on (by decide) rfl) (Nat.le_of_ble_eq_true rfl) (Nat.le_of_ble_eq_true rfl) (Nat.zero_le _) (Nat.zero_le _) (it lay1) ?_
      rintro _ N2 ⟨rfl, hN2⟩
      rw [hN2]
      show Wp _ 259 10 [(2, ((116 : Nat) : Int)), (0, t), (0, u), (9, 0), (9, 0), (9, 0), (9, 0)] [(0, 1)] (Mu [(116, pm_upd (pm_ct M 116) 0 0)] M) _ _ _
      refine g_if (t := 21) lk_259_10 rfl (by first | (unfold pm_inI; omega) | exact pm_and_in _ _ | exact pm_shr_in _ _ | exact pm_or_in _ _ | exact pm_xor_in _ _ | exact pm_shl_in _ _ | exact pm_cmp_in _ _ | exact pm_b8_in _ | (unfold pm_inI; split <;> omega)) (fun h => absurd h (show ¬ ((1 : Int) = (0 : Int)) by omega)) (fun _ => ?_)
      refine g_aload_n lk_259_13 rfl ?_
      refine g_iload_n lk_259_14 rfl ?_
      refine g_virtual (p := 116) (Qc := _) lk_259_15 rfl (Nat.le_of_ble_eq_true rfl) rfl rfl (lay1.on (by decide) rfl) (Nat.le_of_ble_eq_true rfl) (Nat.le_of_ble_eq_true rfl) (Nat.zero_le _) (Nat.zero_le _) (iu lay1) ?_
      rintro _ N3 ⟨rfl, hN3⟩
      rw [hN3]
      show Wp _ 259 18 [(2, ((116 : Nat) : Int)), (0, t), (0, u), (9, 0), (9, 0), (9, 0), (9, 0)] [(0, 0)] (Mu [(116, pm_upd (pm_ct M 116) 0 0)] M) _ _ _
      refine g_if (t := 23) lk_259_18 rfl (by first | (unfold pm_inI; omega) | exact pm_and_in _ _ | exact pm_shr_in _ _ | exact pm_or_in _ _ | exact pm_xor_in _ _ | exact pm_shl_in _ _ | exact pm_cmp_in _ _ | exact pm_b8_in _ | (unfold pm_inI; split <;> omega)) (fun h => absurd h (show ¬ (¬ (0 : Int) = (0 : Int)) by omega)) (fun _ => ?_)
      refine g_iconst lk_259_21 ?_
      refine g_ireturn lk_259_22 (fun h => absurd h (by decide)) ?_
      exact ⟨rfl, lay1, th⟩
  · rw [if_neg e1] at it
    have es : sApart T Ts t u = -1 := by unfold sApart; rw [if_neg (fun z => e1 z.1)]
    rw [es]
    refine g_aload_n lk_259_0 rfl ?_
    refine g_iconst lk_259_1 ?_
    have lay1 : Lay (Mu [(116, pm_upd (pm_ct M 116) 0 0)] M) := lay0.muF (l := []) (a := 116) (k := 0) (z := 0) rfl rfl
    refine m_putfield (u := []) (u' := [(116, pm_upd (pm_ct M 116) 0 0)]) (M := M) lk_259_2 rfl (lay0.on (by decide) rfl) (fun h => absurd h (by decide)) rfl ?_
    refine g_aload_n lk_259_5 rfl ?_
    refine g_iload_n lk_259_6 rfl ?_
    refine g_virtual (p := 116) (Qc := _) lk_259_7 rfl (Nat.le_of_ble_eq_true rfl) rfl rfl (lay1.on (by decide) rfl) (Nat.le_of_ble_eq_true rfl) (Nat.le_of_ble_eq_true rfl) (Nat.zero_le _) (Nat.zero_le _) (it lay1) ?_
    rintro _ N2 ⟨rfl, hN2⟩
    rw [hN2]
    show Wp _ 259 10 [(2, ((116 : Nat) : Int)), (0, t), (0, u), (9, 0), (9, 0), (9, 0), (9, 0)] [(0, 0)] (Mu [(116, pm_upd (pm_ct M 116) 0 0)] M) _ _ _
    refine g_if (t := 21) lk_259_10 rfl (by first | (unfold pm_inI; omega) | exact pm_and_in _ _ | exact pm_shr_in _ _ | exact pm_or_in _ _ | exact pm_xor_in _ _ | exact pm_shl_in _ _ | exact pm_cmp_in _ _ | exact pm_b8_in _ | (unfold pm_inI; split <;> omega)) (fun _ => ?_) (fun h => absurd (show (0 : Int) = (0 : Int) by omega) h)
    refine g_iconst lk_259_21 ?_
    refine g_ireturn lk_259_22 (fun h => absurd h (by decide)) ?_
    exact ⟨rfl, lay1, th⟩
/-- what the first steps of a way cost -/
def wpc (T : Tab) (L : List Nd) (r c : Nat) : Nat → Nat
  | 0 => 0
  | i + 1 => wpc T L r c i + prK T (ndA L (wn L r c i)).1
theorem wpc_CM {T : Tab} (hT : TabOK T) {L : List Nd} {p dp : Nat → Nat} (hD : TrD L dp) (h : PaOK L p) {r c : Nat} : ∀ i, i ≤ wl L r c 9 0 → (CM T L p (wn L r c i)).2.2.2.1 = wpc T L r c i
  | 0, _ => rfl
  | i + 1, hi => by
    obtain ⟨_, w2, _, _⟩ := wn_in hD (r := r) (c := c) i (by omega)
    have g0 := wn_go hD (r := r) (c := c) (i := i) (by omega)
    have ih := wpc_CM hT hD h (r := r) (c := c) i (by omega)
    have key : ∀ b, CM T L p (wn L r c (i + 1)) = dStp T (ndA L (wn L r c i)).1 (ndA L (wn L r c i)).2.1 b (CM T L p (wn L r c i)) → (CM T L p (wn L r c (i + 1))).2.2.2.1 = wpc T L r c (i + 1) := fun b hb => by
      rw [hb]
      show (CM T L p (wn L r c i)).2.2.2.1 + prK T (ndA L (wn L r c i)).1 = wpc T L r c i + prK T (ndA L (wn L r c i)).1
      rw [ih]
    have e : wn L r c (i + 1) = nxt L r c (wn L r c i) := rfl
    by_cases q : yesAt L r c (wn L r c i) = true
    · refine key true ?_
      rw [e, show nxt L r c (wn L r c i) = wn L r c i + 1 by unfold nxt; rw [if_pos q]]
      exact CM_1 hD h w2 g0
    · refine key false ?_
      rw [e, show nxt L r c (wn L r c i) = (ndA L (wn L r c i)).2.2.toNat by unfold nxt; rw [if_neg q]]
      exact CM_2 hD h w2 g0
def wrA (T : Tab) (L : List Nd) (g r c : Nat) : Nat := if wl L r c 9 0 < g then wrg T L r c else 0
theorem tWro_wrA (T : Tab) (L : List Nd) (g : Nat) : tWro T L g = s2 T (wrA T L g) := rfl
def OkG (M N : pm_M) (T : Tab) (L : List Nd) (p : Nat → Nat) : Prop := Lay N ∧ MF [142, 143, 144, 151, 152, 153, 154] [0, 49, 59, 60, 61] M N ∧ CL N T 1 ∧ CoAt N T L p L.length
theorem gCel_le {T : Tab} (hT : TabOK T) {L : List Nd} {p dp : Nat → Nat} (h : TrX L p dp) {g r c : Nat} (hr : r < tR T) (hc : c < tC T) : gCel T L p g r c ≤ 11800 := by
  unfold gCel
  by_cases q : wl L r c 9 0 < g
  · rw [if_pos q]; have := wc_81 hT L r c 9 0; omega
  · rw [if_neg q]
    obtain ⟨a1, _⟩ := way_in hT h.1 h.2.1 hr hc g (by omega)
    obtain ⟨_, w2, w3, _⟩ := wn_in h.1 (r := r) (c := c) g (by omega)
    obtain ⟨b1, b2, b3, b4, _, _⟩ := CM_bd hT h.1 h.2.1 _ _ (Nat.lt_succ_self _) w2
    have d8 := (h.2.2 _ w2).1
    have iu := in_used a1
    have := BW_small hT 0 (rs := (CM T L p (wn L r c g)).1) (cs := (CM T L p (wn L r c g)).2.1) (by omega) b1 (by omega) b2
    omega
theorem pX_leT {T : Tab} {f : Nat → Nat → Nat} {b : Nat} (h : ∀ r c, r < tR T → c < tC T → f r c ≤ b) {r c : Nat} (hr : r ≤ tR T) (hc : c = 0 ∨ r < tR T ∧ c ≤ tC T) : pX T f r c ≤ b := by
  unfold pX
  have h1 := xm_le (f := fun r => xm (fun c => f r c) (tC T)) (b := b) (n := r) (fun i hi => xm_le (fun j hj => h i j (by omega) hj))
  have h2 := xm_le (f := fun c => f r c) (b := b) (n := c) (fun j hj => h r j (by omega) (by omega))
  omega
set_option maxHeartbeats 16000000 in
theorem c_Mo_graft {d mc ms : Nat} {M : pm_M} (lay0 : Lay M) {T : Tab} (hT : TabOK T) (hM0 : MoAt M T) {f : Nat} (hC0 : CL M T f) {Ts : List (List Nd)} {ps dps : Nat → Nat → Nat} (hTs0 : TsMX M Ts ps dps) {t g v : Int} (ht : pm_inI t) (hg : pm_inI g) (hv : pm_inI v) :
    pm_E (d + 5) 258 [(2, ((116 : Nat) : Int)), (0, t), (0, g), (0, v)] M mc ms (fun ρ M' => ρ = some (0, sGraft T Ts ps t g v) ∧ Lay M' ∧ MF [142, 143, 144, 151, 152, 153, 154] [0, 49, 59, 60, 61] M M' ∧ ∃ f', CL M' T f') := by
  have th := MF.th (S := [142, 143, 144, 151, 152, 153, 154]) (K := [0, 49, 59, 60, 61]) (by decide) M
  have th0 := MF.th (S := []) (K := [0]) (by decide) M
  have mo := hM0.mf th (by decide) (by decide) (by decide) (by decide)
  have ts := hTs0.mf th (by decide) (by decide) (by decide) (by decide) (by decide)
  have cl := hC0.mf th0 (by decide) (by decide) (by decide) (by decide)
  have it := fun l => c_Mo_isTree (d := d + 3) (mc := 0) (ms := 0) (M := Mu [(116, pm_upd (pm_ct M 116) 0 0)] M) l ts.at ht
  have ig := fun (M : pm_M) => c_Mo_in (d := d + 4) (mc := 0) (ms := 0) (M := M) (v := g) (l := 0) (h := 9) hg (by unfold pm_inI; omega) (by unfold pm_inI; omega)
  have iv := fun (M : pm_M) => c_Mo_in (d := d + 4) (mc := 0) (ms := 0) (M := M) (v := v) (l := 0) (h := 1) hv (by unfold pm_inI; omega) (by unfold pm_inI; omega)
  have l4 := hTs0.1
  have hR := hT.1
  have hC := hT.2.1
  show Wp (d + 5) 258 0 [(2, ((116 : Nat) : Int)), (0, t), (0, g), (0, v), (9, 0), (9, 0), (9, 0), (9, 0), (9, 0), (9, 0), (9, 0), (9, 0)] [] M mc ms _
  by_cases e1 : 0 ≤ t ∧ t < (Ts.length : Int)
  rotate_left
  · rw [if_neg e1] at it
    have es : sGraft T Ts ps t g v = -1 := by unfold sGraft; rw [if_neg (fun z => e1 z.1)]
    rw [es]
    refine g_aload_n lk_258_0 rfl ?_
    refine g_iconst lk_258_1 ?_
    have lay1 : Lay (Mu [(116, pm_upd (pm_ct M 116) 0 0)] M) := lay0.muF (l := []) (a := 116) (k := 0) (z := 0) rfl rfl
    refine m_putfield (u := []) (u' := [(116, pm_upd (pm_ct M 116) 0 0)]) (M := M) lk_258_2 rfl (lay0.on (by decide) rfl) (fun h => absurd h (by decide)) rfl ?_
    refine g_aload_n lk_258_5 rfl ?_
    refine g_iload_n lk_258_6 rfl ?_
    refine g_virtual (p := 116) (Qc := _) lk_258_7 rfl (Nat.le_of_ble_eq_true rfl) rfl rfl (lay1.on (by decide) rfl) (Nat.le_of_ble_eq_true rfl) (Nat.le_of_ble_eq_true rfl) (Nat.zero_le _) (Nat.zero_le _) (it lay1) ?_
    rintro _ N2 ⟨rfl, hN2⟩
    rw [hN2]
    show Wp _ 258 10 [(2, ((116 : Nat) : Int)), (0, t), (0, g), (0, v), (9, 0), (9, 0), (9, 0), (9, 0), (9, 0), (9, 0), (9, 0), (9, 0)] [(0, 0)] (Mu [(116, pm_upd (pm_ct M 116) 0 0)] M) _ _ _
    refine g_if (t := 32) lk_258_10 rfl (by first | (unfold pm_inI; omega) | exact pm_and_in _ _ | exact pm_shr_in _ _ | exact pm_or_in _ _ | exact pm_xor_in _ _ | exact pm_shl_in _ _ | exact pm_cmp_in _ _ | exact pm_b8_in _ | (unfold pm_inI; split <;> omega)) (fun _ => ?_) (fun h => absurd (show (0 : Int) = (0 : Int) by omega) h)
    refine g_iconst lk_258_32 ?_
    refine g_ireturn lk_258_33 (fun h => absurd h (by decide)) ?_
    exact ⟨rfl, lay1, th, f, cl⟩
  rw [if_pos e1] at it
  by_cases e2 : 0 ≤ g ∧ g ≤ 9
  rotate_left
  · rw [if_neg e2] at ig
    have es : sGraft T Ts ps t g v = -1 := by unfold sGraft; rw [if_neg (fun z => e2 z.2)]
    rw [es]
    refine g_aload_n lk_258_0 rfl ?_
    refine g_iconst lk_258_1 ?_
    have lay1 : Lay (Mu [(116, pm_upd (pm_ct M 116) 0 0)] M) := lay0.muF (l := []) (a := 116) (k := 0) (z := 0) rfl rfl
    refine m_putfield (u := []) (u' := [(116, pm_upd (pm_ct M 116) 0 0)]) (M := M) lk_258_2 rfl (lay0.on (by decide) rfl) (fun h => absurd h (by decide)) rfl ?_
    refine g_aload_n lk_258_5 rfl ?_
    refine g_iload_n lk_258_6 rfl ?_
    refine g_virtual (p := 116) (Qc := _) lk_258_7 rfl (Nat.le_of_ble_eq_true rfl) rfl rfl (lay1.on (by decide) rfl) (Nat.le_of_ble_eq_true rfl) (Nat.le_of_ble_eq_true rfl) (Nat.zero_le _) (Nat.zero_le _) (it lay1) ?_
    rintro _ N2 ⟨rfl, hN2⟩
    rw [hN2]
    show Wp _ 258 10 [(2, ((116 : Nat) : Int)), (0, t), (0, g), (0, v), (9, 0), (9, 0), (9, 0), (9, 0), (9, 0), (9, 0), (9, 0), (9, 0)] [(0, 1)] (Mu [(116, pm_upd (pm_ct M 116) 0 0)] M) _ _ _
    refine g_if (t := 32) lk_258_10 rfl (by first | (unfold pm_inI; omega) | exact pm_and_in _ _ | exact pm_shr_in _ _ | exact pm_or_in _ _ | exact pm_xor_in _ _ | exact pm_shl_in _ _ | exact pm_cmp_in _ _ | exact pm_b8_in _ | (unfold pm_inI; split <;> omega)) (fun h => absurd h (show ¬ ((1 : Int) = (0 : Int)) by omega)) (fun _ => ?_)
    refine g_iload_n lk_258_13 rfl ?_
    refine g_iconst lk_258_14 ?_
    refine g_bipush lk_258_15 ?_
    refine g_static (Qc := _) lk_258_17 (by decide) rfl (Nat.le_of_ble_eq_true rfl) rfl rfl (Nat.le_of_ble_eq_true rfl) (Nat.le_of_ble_eq_true rfl) (Nat.zero_le _) (Nat.zero_le _) (ig _) ?_
    rintro _ N3 ⟨rfl, hN3⟩
    rw [hN3]
    show Wp _ 258 20 [(2, ((116 : Nat) : Int)), (0, t), (0, g), (0, v), (9, 0), (9, 0), (9, 0), (9, 0), (9, 0), (9, 0), (9, 0), (9, 0)] [(0, 0)] (Mu [(116, pm_upd (pm_ct M 116) 0 0)] M) _ _ _
    refine g_if (t := 32) lk_258_20 rfl (by first | (unfold pm_inI; omega) | exact pm_and_in _ _ | exact pm_shr_in _ _ | exact pm_or_in _ _ | exact pm_xor_in _ _ | exact pm_shl_in _ _ | exact pm_cmp_in _ _ | exact pm_b8_in _ | (unfold pm_inI; split <;> omega)) (fun _ => ?_) (fun h => absurd (show (0 : Int) = (0 : Int) by omega) h)
    refine g_iconst lk_258_32 ?_
    refine g_ireturn lk_258_33 (fun h => absurd h (by decide)) ?_
    exact ⟨rfl, lay1, th, f, cl⟩
  rw [if_pos e2] at ig
  by_cases e3 : 0 ≤ v ∧ v ≤ 1
  rotate_left
  · rw [if_neg e3] at iv
    have es : sGraft T Ts ps t g v = -1 := by unfold sGraft; rw [if_pos ⟨e1, e2⟩, if_neg (by omega), if_neg (by omega)]
    rw [es]
    refine g_aload_n lk_258_0 rfl ?_
    refine g_iconst lk_258_1 ?_
    have lay1 : Lay (Mu [(116, pm_upd (pm_ct M 116) 0 0)] M) := lay0.muF (l := []) (a := 116) (k := 0) (z := 0) rfl rfl
    refine m_putfield (u := []) (u' := [(116, pm_upd (pm_ct M 116) 0 0)]) (M := M) lk_258_2 rfl (lay0.on (by decide) rfl) (fun h => absurd h (by decide)) rfl ?_
    refine g_aload_n lk_258_5 rfl ?_
    refine g_iload_n lk_258_6 rfl ?_
    refine g_virtual (p := 116) (Qc := _) lk_258_7 rfl (Nat.le_of_ble_eq_true rfl) rfl rfl (lay1.on (by decide) rfl) (Nat.le_of_ble_eq_true rfl) (Nat.le_of_ble_eq_true rfl) (Nat.zero_le _) (Nat.zero_le _) (it lay1) ?_
    rintro _ N2 ⟨rfl, hN2⟩
    rw [hN2]
    show Wp _ 258 10 [(2, ((116 : Nat) : Int)), (0, t), (0, g), (0, v), (9, 0), (9, 0), (9, 0), (9, 0), (9, 0), (9, 0), (9, 0), (9, 0)] [(0, 1)] (Mu [(116, pm_upd (pm_ct M 116) 0 0)] M) _ _ _
    refine g_if (t := 32) lk_258_10 rfl (by first | (unfold pm_inI; omega) | exact pm_and_in _ _ | exact pm_shr_in _ _ | exact pm_or_in _ _ | exact pm_xor_in _ _ | exact pm_shl_in _ _ | exact pm_cmp_in _ _ | exact pm_b8_in _ | (unfold pm_inI; split <;> omega)) (fun h => absurd h (show ¬ ((1 : Int) = (0 : Int)) by omega)) (fun _ => ?_)
    refine g_iload_n lk_258_13 rfl ?_
    refine g_iconst lk_258_14 ?_
    refine g_bipush lk_258_15 ?_
    refine g_static (Qc := _) lk_258_17 (by decide) rfl (Nat.le_of_ble_eq_true rfl) rfl rfl (Nat.le_of_ble_eq_true rfl) (Nat.le_of_ble_eq_true rfl) (Nat.zero_le _) (Nat.zero_le _) (ig _) ?_
    rintro _ N3 ⟨rfl, hN3⟩
    rw [hN3]
    show Wp _ 258 20 [(2, ((116 : Nat) : Int)), (0, t), (0, g), (0, v), (9, 0), (9, 0), (9, 0), (9, 0), (9, 0), (9, 0), (9, 0), (9, 0)] [(0, 1)] (Mu [(116, pm_upd (pm_ct M 116) 0 0)] M) _ _ _
    refine g_if (t := 32) lk_258_20 rfl (by first | (unfold pm_inI; omega) | exact pm_and_in _ _ | exact pm_shr_in _ _ | exact pm_or_in _ _ | exact pm_xor_in _ _ | exact pm_shl_in _ _ | exact pm_cmp_in _ _ | exact pm_b8_in _ | (unfold pm_inI; split <;> omega)) (fun h => absurd h (show ¬ ((1 : Int) = (0 : Int)) by omega)) (fun _ => ?_)
    refine g_iload_n lk_258_23 rfl ?_
    refine g_iconst lk_258_24 ?_
    refine g_iconst lk_258_25 ?_
    refine g_static (Qc := _) lk_258_26 (by decide) rfl (Nat.le_of_ble_eq_true rfl) rfl rfl (Nat.le_of_ble_eq_true rfl) (Nat.le_of_ble_eq_true rfl) (Nat.zero_le _) (Nat.zero_le _) (iv _) ?_
    rintro _ N4 ⟨rfl, hN4⟩
    rw [hN4]
    show Wp _ 258 29 [(2, ((116 : Nat) : Int)), (0, t), (0, g), (0, v), (9, 0), (9, 0), (9, 0), (9, 0), (9, 0), (9, 0), (9, 0), (9, 0)] [(0, 0)] (Mu [(116, pm_upd (pm_ct M 116) 0 0)] M) _ _ _
    refine g_if (t := 34) lk_258_29 rfl (by first | (unfold pm_inI; omega) | exact pm_and_in _ _ | exact pm_shr_in _ _ | exact pm_or_in _ _ | exact pm_xor_in _ _ | exact pm_shl_in _ _ | exact pm_cmp_in _ _ | exact pm_b8_in _ | (unfold pm_inI; split <;> omega)) (fun h => absurd h (show ¬ (¬ (0 : Int) = (0 : Int)) by omega)) (fun _ => ?_)
    refine g_iconst lk_258_32 ?_
    refine g_ireturn lk_258_33 (fun h => absurd h (by decide)) ?_
    exact ⟨rfl, lay1, th, f, cl⟩
  rw [if_pos e3] at iv
  obtain ⟨t, rfl⟩ := Int.eq_ofNat_of_zero_le e1.1
  obtain ⟨g, rfl⟩ := Int.eq_ofNat_of_zero_le e2.1
  obtain ⟨tm0, hX⟩ := hTs0.2.2 t (by omega)
  obtain ⟨L, hL⟩ : ∃ L, L = Ts.getD t [] := ⟨_, rfl⟩
  obtain ⟨p, hpp⟩ : ∃ p, p = ps t := ⟨_, rfl⟩
  have es : sGraft T Ts ps (t : Int) (g : Int) v = if v = 0 then (x2 T (gCel T L p g) : Int) else if v = 1 then (tWro T L g : Int) else -1 := by
    unfold sGraft
    rw [if_pos ⟨e1, e2⟩, hL, hpp]
    rfl
  rw [es, tWro_wrA]
  rw [← hL] at tm0 hX
  rw [← hpp] at hX
  obtain ⟨hD, hp, hx⟩ := id hX
  have l31 := hD.2.1
  obtain ⟨Q, hQ⟩ : ∃ Q : pm_Q, Q = (fun ρ M' => ρ = some (0, (if v = 0 then (x2 T (gCel T L p g) : Int) else if v = 1 then (s2 T (wrA T L g) : Int) else -1)) ∧ Lay M' ∧ MF [142, 143, 144, 151, 152, 153, 154] [0, 49, 59, 60, 61] M M' ∧ ∃ f', CL M' T f') := ⟨_, rfl⟩
  rw [← hQ]
  have mo' : ∀ {N : pm_M}, MF [142, 143, 144, 151, 152, 153, 154] [0, 49, 59, 60, 61] M N → MoAt N T := fun k => hM0.mf k (by decide) (by decide) (by decide) (by decide)
  have tr' : ∀ {N : pm_M}, MF [142, 143, 144, 151, 152, 153, 154] [0, 49, 59, 60, 61] M N → TrM N t L := fun k => tm0.mf k (by decide) (by decide) (by decide) (by decide)
  have mn2 : ∀ {N K : pm_M}, MF [151, 152] [59, 60, 61] N K → MF [142, 143, 144, 151, 152, 153, 154] [0, 49, 59, 60, 61] N K := fun k => k.mono (fun a q => by simp at q ⊢; omega) (fun a q => by simp at q ⊢; omega)
  have gl : ∀ r c, r < tR T → c < tC T → gCel T L p g r c ≤ 11800 := fun r c hr hc => gCel_le hT hX hr hc
  have step : ∀ (r c a b : Nat) (v8 v9 v10 v11 : pm_V) (N : pm_M), r < tR T → c < tC T → a ≤ 11800 → OkG M N T L p →
      (∀ (z z' : Int) (v8 v9 v10 v11 : pm_V) (K : pm_M), OkG M K T L p → z = ((max a (gCel T L p g r c) : Nat) : Int) → z' = ((b + wrA T L g r c : Nat) : Int) → Wp (d + 5) 258 64 [(2, ((116 : Nat) : Int)), (0, (t : Int)), (0, (g : Int)), (0, v), (0, z), (0, z'), (0, (r : Int)), (0, (c : Int) + 1), v8, v9, v10, v11] [] K mc ms Q) →
      Wp (d + 5) 258 73 [(2, ((116 : Nat) : Int)), (0, (t : Int)), (0, (g : Int)), (0, v), (0, (a : Int)), (0, (b : Int)), (0, (r : Int)), (0, (c : Int)), v8, v9, v10, v11] [] N mc ms Q := by
    intro r c a b v8 v9 v10 v11 N hr hc ha hO go
    obtain ⟨lay, mf, clN, coN⟩ := hO
    have moN := mo' mf
    have wlf := (wy_leaf hD (r := r) (c := c) (n := 9) (k := 0) (by have := hD.1; omega) (by omega)).2
    have gs := c_Mo_goes (d := d + 3) (mc := 0) (ms := 0) lay hT moN hD (show t < 4 by omega) (tr' mf) (r := r) (c := c) (by omega) (by omega)
    have w9 := wl_9 L r c 9 0
    have c81 := wc_81 hT L r c 9 0
    have e9 := (leaf_at hT hD hp hr hc).2.2.2.2.2.2
    have wi := fun i => wn_in hD (r := r) (c := c) i
    have wg := fun i => wn_go hD (r := r) (c := c) (i := i)
    have gc : gCel T L p g r c = if wl L r c 9 0 < g then wc T L r c 9 0 else (CM T L p (wn L r c g)).2.2.2.1 + BW T 0 (CM T L p (wn L r c g)).1 (CM T L p (wn L r c g)).2.1 := rfl
    have gw : wrA T L g r c = if wl L r c 9 0 < g then wrg T L r c else 0 := rfl
    have gv : wrg T L r c = if tX T (6 * r + c) ≠ 10 ∧ (ndA L (wy L r c 9 0)).2.1 ≠ tX T (6 * r + c) then 1 else 0 := rfl
    have pcm := wpc_CM hT hD hp (r := r) (c := c) g
    have win := way_in hT hD hp hr hc g
    obtain ⟨n, hn⟩ : ∃ n, n = wl L r c 9 0 := ⟨_, rfl⟩
    obtain ⟨u1, hu1⟩ : ∃ u, u = wc T L r c 9 0 := ⟨_, rfl⟩
    rw [← hn] at gs w9 gc gw e9 wi wg pcm win
    rw [← hu1] at gs gc c81
    obtain ⟨k0, hk0⟩ : ∃ w, w = wy L r c 9 0 := ⟨_, rfl⟩
    rw [← hk0] at wlf gs gv e9
    have rd := ((tr' mf).2 k0 wlf).2.1
    obtain ⟨j, hj⟩ : ∃ j, j = 31 * t + k0 := ⟨_, rfl⟩
    rw [← hj] at rd
    have ej : (31 : Int) * (t : Int) + (k0 : Int) = (j : Int) := by omega
    have v64 := (hD.2.2.2 k0 wlf).2.1
    obtain ⟨y, hy⟩ : ∃ y, y = (ndA L k0).2.1 := ⟨_, rfl⟩
    rw [← hy] at rd gv v64
    have x10 := hT.2.2.1 (6 * r + c)
    obtain ⟨x, hx0⟩ : ∃ x, x = tX T (6 * r + c) := ⟨_, rfl⟩
    rw [← hx0] at gv x10
    have ca : ∀ {K : pm_M}, Lay K → MoAt K T → pm_E (d + 4) 174 [(2, ((116 : Nat) : Int)), (0, (r : Int)), (0, (c : Int))] K 0 0 (fun ρ M' => ρ = some (0, (x : Int)) ∧ M' = K) := fun l m => by
      have := c_Mo_cellAt (d := d + 4) (mc := 0) (ms := 0) l m (r := r) (c := c) (by omega) (by omega)
      rw [← hx0] at this
      exact this
    by_cases q : n < g
    · rw [if_pos q] at gc gw
      refine g_aload_n lk_258_73 rfl ?_
      refine g_getfield lk_258_74 rfl (lay.on (by decide) rfl) (v := ((124 : Nat) : Int)) (lay.rf rfl) ?_
      refine g_bipush lk_258_77 ?_
      refine g_iload_n lk_258_79 rfl ?_
      refine g_imul lk_258_80 ?_
      refine g_aload_n lk_258_81 rfl ?_
      refine g_iload_n lk_258_82 rfl ?_
      refine g_iload lk_258_83 rfl ?_
      refine g_iload lk_258_85 rfl ?_
      refine g_virtual (p := 116) (Qc := _) lk_258_87 rfl (Nat.le_of_ble_eq_true rfl) rfl rfl (lay.on (by decide) rfl) (Nat.le_of_ble_eq_true rfl) (Nat.le_of_ble_eq_true rfl) (Nat.zero_le _) (Nat.zero_le _) (gs) ?_
      rintro _ K1 ⟨rfl, lay1, mf1, c59, c60, -⟩
      have mfK := mf.trans (mn2 mf1)
      have rd1 : pm_ct K1 124 j = (y : Int) := (by rw [mf1.ct (by decide) (by decide)]; exact rd)
      have moK := mo' mfK
      have okK : OkG M K1 T L p := ⟨lay1, mfK, clN.mf mf1 (by decide) (by decide) (by decide) (by decide), coN.mf mf1 (by decide) (by decide)⟩
      show Wp _ 258 90 [(2, ((116 : Nat) : Int)), (0, (t : Int)), (0, (g : Int)), (0, v), (0, (a : Int)), (0, (b : Int)), (0, (r : Int)), (0, (c : Int)), v8, v9, v10, v11] [(0, (k0 : Int)), (0, (31 * (t : Int))), (2, ((124 : Nat) : Int))] K1 _ _ _
      refine g_iadd lk_258_90 ?_
      refine g_top (z := ((31 * (t : Int)) + (k0 : Int))) (z' := (j : Int)) (ej) ?_
      refine m_iaload (u := []) (M := K1) lk_258_91 (lay1.ay (by decide) rfl) (by omega) (j := j) (by omega) (v := (y : Int)) rd1 ?_
      refine g_istore (ls' := [(2, ((116 : Nat) : Int)), (0, (t : Int)), (0, (g : Int)), (0, v), (0, (a : Int)), (0, (b : Int)), (0, (r : Int)), (0, (c : Int)), (0, (y : Int)), v9, v10, v11]) lk_258_92 rfl rfl ?_
      refine g_aload_n lk_258_94 rfl ?_
      refine m_getfield (u := []) (M := K1) lk_258_95 rfl (lay1.on (by decide) rfl) (v := (n : Int)) c59 ?_
      refine g_iload_n lk_258_98 rfl ?_
      refine g_icmp (t := 152) lk_258_99 rfl (by first | (unfold pm_inI; omega) | exact pm_and_in _ _ | exact pm_shr_in _ _ | exact pm_or_in _ _ | exact pm_xor_in _ _ | exact pm_shl_in _ _ | exact pm_cmp_in _ _ | exact pm_b8_in _ | (unfold pm_inI; split <;> omega)) (by first | (unfold pm_inI; omega) | exact pm_and_in _ _ | exact pm_shr_in _ _ | exact pm_or_in _ _ | exact pm_xor_in _ _ | exact pm_shl_in _ _ | exact pm_cmp_in _ _ | exact pm_b8_in _ | (unfold pm_inI; split <;> omega)) (fun h1 => ?_) (fun h1 => ?_)
      · replace h1 : (g : Int) ≤ (n : Int) := h1
        omega
      · replace h1 : ¬ ((g : Int) ≤ (n : Int)) := h1
        refine g_iload lk_258_102 rfl ?_
        refine g_aload_n lk_258_104 rfl ?_
        refine m_getfield (u := []) (M := K1) lk_258_105 rfl (lay1.on (by decide) rfl) (v := (u1 : Int)) c60 ?_
        refine g_static (Qc := _) lk_258_108 (by decide) rfl (Nat.le_of_ble_eq_true rfl) rfl rfl (Nat.le_of_ble_eq_true rfl) (Nat.le_of_ble_eq_true rfl) (Nat.zero_le _) (Nat.zero_le _) (c_Mo_greater (by unfold pm_inI; omega) (by unfold pm_inI; omega)) ?_
        rintro _ N2 ⟨rfl, hN2⟩
        rw [hN2]
        show Wp _ 258 111 [(2, ((116 : Nat) : Int)), (0, (t : Int)), (0, (g : Int)), (0, v), (0, (a : Int)), (0, (b : Int)), (0, (r : Int)), (0, (c : Int)), (0, (y : Int)), v9, v10, v11] [(0, (max (a : Int) (u1 : Int)))] K1 _ _ _
        refine g_istore (ls' := [(2, ((116 : Nat) : Int)), (0, (t : Int)), (0, (g : Int)), (0, v), (0, (max (a : Int) (u1 : Int))), (0, (b : Int)), (0, (r : Int)), (0, (c : Int)), (0, (y : Int)), v9, v10, v11]) lk_258_111 rfl rfl ?_
        refine g_iload lk_258_113 rfl ?_
        refine g_aload_n lk_258_115 rfl ?_
        refine g_iload lk_258_116 rfl ?_
        refine g_iload lk_258_118 rfl ?_
        refine g_virtual (p := 116) (Qc := _) lk_258_120 rfl (Nat.le_of_ble_eq_true rfl) rfl rfl (lay1.on (by decide) rfl) (Nat.le_of_ble_eq_true rfl) (Nat.le_of_ble_eq_true rfl) (Nat.zero_le _) (Nat.zero_le _) (ca lay1 moK) ?_
        rintro _ N3 ⟨rfl, hN3⟩
        rw [hN3]
        show Wp _ 258 123 [(2, ((116 : Nat) : Int)), (0, (t : Int)), (0, (g : Int)), (0, v), (0, (max (a : Int) (u1 : Int))), (0, (b : Int)), (0, (r : Int)), (0, (c : Int)), (0, (y : Int)), v9, v10, v11] [(0, (x : Int)), (0, (b : Int))] K1 _ _ _
        refine g_bipush lk_258_123 ?_
        refine g_icmp (t := 145) lk_258_125 rfl (by first | (unfold pm_inI; omega) | exact pm_and_in _ _ | exact pm_shr_in _ _ | exact pm_or_in _ _ | exact pm_xor_in _ _ | exact pm_shl_in _ _ | exact pm_cmp_in _ _ | exact pm_b8_in _ | (unfold pm_inI; split <;> omega)) (by first | (unfold pm_inI; omega) | exact pm_and_in _ _ | exact pm_shr_in _ _ | exact pm_or_in _ _ | exact pm_xor_in _ _ | exact pm_shl_in _ _ | exact pm_cmp_in _ _ | exact pm_b8_in _ | (unfold pm_inI; split <;> omega)) (fun h4 => ?_) (fun h4 => ?_)
        · replace h4 : (x : Int) = 10 := h4
          refine g_iconst lk_258_145 ?_
          refine g_iadd lk_258_146 ?_
          refine g_istore (ls' := [(2, ((116 : Nat) : Int)), (0, (t : Int)), (0, (g : Int)), (0, v), (0, (max (a : Int) (u1 : Int))), (0, ((b : Int) + 0)), (0, (r : Int)), (0, (c : Int)), (0, (y : Int)), v9, v10, v11]) lk_258_147 rfl rfl ?_
          refine g_goto (t := 237) lk_258_149 rfl ?_
          refine g_iinc (ls' := [(2, ((116 : Nat) : Int)), (0, (t : Int)), (0, (g : Int)), (0, v), (0, (max (a : Int) (u1 : Int))), (0, ((b : Int) + 0)), (0, (r : Int)), (0, ((c : Int) + 1)), (0, (y : Int)), v9, v10, v11]) lk_258_237 rfl rfl rfl ?_
          refine g_goto (t := 64) lk_258_240 rfl ?_
          exact go _ _ _ _ _ _ _ okK (by rw [gc]; omega) (by rw [gw, gv, if_neg (fun z => z.1 (by omega))]; omega)
        · replace h4 : ¬ ((x : Int) = 10) := h4
          refine g_iload lk_258_128 rfl ?_
          refine g_aload_n lk_258_130 rfl ?_
          refine g_iload lk_258_131 rfl ?_
          refine g_iload lk_258_133 rfl ?_
          refine g_virtual (p := 116) (Qc := _) lk_258_135 rfl (Nat.le_of_ble_eq_true rfl) rfl rfl (lay1.on (by decide) rfl) (Nat.le_of_ble_eq_true rfl) (Nat.le_of_ble_eq_true rfl) (Nat.zero_le _) (Nat.zero_le _) (ca lay1 moK) ?_
          rintro _ N5 ⟨rfl, hN5⟩
          rw [hN5]
          show Wp _ 258 138 [(2, ((116 : Nat) : Int)), (0, (t : Int)), (0, (g : Int)), (0, v), (0, (max (a : Int) (u1 : Int))), (0, (b : Int)), (0, (r : Int)), (0, (c : Int)), (0, (y : Int)), v9, v10, v11] [(0, (x : Int)), (0, (y : Int)), (0, (b : Int))] K1 _ _ _
          refine g_icmp (t := 145) lk_258_138 rfl (by first | (unfold pm_inI; omega) | exact pm_and_in _ _ | exact pm_shr_in _ _ | exact pm_or_in _ _ | exact pm_xor_in _ _ | exact pm_shl_in _ _ | exact pm_cmp_in _ _ | exact pm_b8_in _ | (unfold pm_inI; split <;> omega)) (by first | (unfold pm_inI; omega) | exact pm_and_in _ _ | exact pm_shr_in _ _ | exact pm_or_in _ _ | exact pm_xor_in _ _ | exact pm_shl_in _ _ | exact pm_cmp_in _ _ | exact pm_b8_in _ | (unfold pm_inI; split <;> omega)) (fun h6 => ?_) (fun h6 => ?_)
          · replace h6 : (y : Int) = (x : Int) := h6
            refine g_iconst lk_258_145 ?_
            refine g_iadd lk_258_146 ?_
            refine g_istore (ls' := [(2, ((116 : Nat) : Int)), (0, (t : Int)), (0, (g : Int)), (0, v), (0, (max (a : Int) (u1 : Int))), (0, ((b : Int) + 0)), (0, (r : Int)), (0, (c : Int)), (0, (y : Int)), v9, v10, v11]) lk_258_147 rfl rfl ?_
            refine g_goto (t := 237) lk_258_149 rfl ?_
            refine g_iinc (ls' := [(2, ((116 : Nat) : Int)), (0, (t : Int)), (0, (g : Int)), (0, v), (0, (max (a : Int) (u1 : Int))), (0, ((b : Int) + 0)), (0, (r : Int)), (0, ((c : Int) + 1)), (0, (y : Int)), v9, v10, v11]) lk_258_237 rfl rfl rfl ?_
            refine g_goto (t := 64) lk_258_240 rfl ?_
            exact go _ _ _ _ _ _ _ okK (by rw [gc]; omega) (by rw [gw, gv, if_neg (fun z => z.2 (by omega))]; omega)
          · replace h6 : ¬ ((y : Int) = (x : Int)) := h6
            refine g_iconst lk_258_141 ?_
            refine g_goto (t := 146) lk_258_142 rfl ?_
            refine g_iadd lk_258_146 ?_
            refine g_istore (ls' := [(2, ((116 : Nat) : Int)), (0, (t : Int)), (0, (g : Int)), (0, v), (0, (max (a : Int) (u1 : Int))), (0, ((b : Int) + 1)), (0, (r : Int)), (0, (c : Int)), (0, (y : Int)), v9, v10, v11]) lk_258_147 rfl rfl ?_
            refine g_goto (t := 237) lk_258_149 rfl ?_
            refine g_iinc (ls' := [(2, ((116 : Nat) : Int)), (0, (t : Int)), (0, (g : Int)), (0, v), (0, (max (a : Int) (u1 : Int))), (0, ((b : Int) + 1)), (0, (r : Int)), (0, ((c : Int) + 1)), (0, (y : Int)), v9, v10, v11]) lk_258_237 rfl rfl rfl ?_
            refine g_goto (t := 64) lk_258_240 rfl ?_
            exact go _ _ _ _ _ _ _ okK (by rw [gc]; omega) (by rw [gw, gv, if_pos ⟨by omega, by omega⟩]; omega)
    · rw [if_neg q] at gc gw
      obtain ⟨in1, _⟩ := win (by omega)
      obtain ⟨_, kl, _, _⟩ := wi g (by omega)
      have pg := pcm (by omega)
      rw [pg] at gc
      obtain ⟨b1, b2, _, _, _, _⟩ := CM_bd hT hD hp _ _ (Nat.lt_succ_self _) kl
      have r6 := lt_64_of hT.1.2 b1
      have c6 := lt_64_of hT.2.1.2 b2
      have iu := in_used in1
      have bs := BW_small hT 0 (rs := (CM T L p (wn L r c g)).1) (cs := (CM T L p (wn L r c g)).2.1) (by omega) b1 (by omega) b2
      have gle := gl r c hr hc
      rw [gc] at gle
      obtain ⟨k, hk⟩ : ∃ k, k = wn L r c g := ⟨_, rfl⟩
      rw [← hk] at gc b1 b2 r6 c6 iu bs kl gle
      have hpk : k = 0 ∨ p k < L.length := by
        by_cases z : k = 0
        · exact Or.inl z
        · exact Or.inr (by have := (hp.2 k (by omega) kl).1; omega)
      obtain ⟨e, he⟩ : ∃ e, e = CM T L p k := ⟨_, rfl⟩
      rw [← he] at gc b1 b2 r6 c6 iu bs gle
      have hin : inT T e.1 e.2.1 := ⟨by omega, b1, by omega, b2⟩
      have ca := hT.2.2.2.1
      have cb := hT.2.2.2.2
      have loop2 : ∀ (K : pm_M), OkG M K T L p → (∀ i, i ≤ g → pm_ct K 151 i = (wn L r c i : Int)) → ∀ (m i : Nat), i + m = g → Wp (d + 5) 258 166 [(2, ((116 : Nat) : Int)), (0, (t : Int)), (0, (g : Int)), (0, v), (0, (a : Int)), (0, (b : Int)), (0, (r : Int)), (0, (c : Int)), (0, (y : Int)), (0, (k : Int)), (0, ((wpc T L r c i : Nat) : Int)), (0, (i : Int))] [] K mc ms Q := by
        intro K hO wa m
        obtain ⟨layK, mfK, clK, coK⟩ := id hO
        have moK := mo' mfK
        have tmK := tr' mfK
        induction m with
        | zero =>
          intro i hi
          have ei : i = g := by omega
          rw [ei]
          have c12 := coK k kl hpk
          rw [← he] at c12
          have rb := ((clK.2.2 rfl) e.1 e.2.1 hin).2.1 0 (by omega)
          rw [show 4096 * 0 + (64 * e.1 + e.2.1) = 64 * e.1 + e.2.1 by omega] at rb
          obtain ⟨jj, hjj⟩ : ∃ j, j = 64 * e.1 + e.2.1 := ⟨_, rfl⟩
          have j9 : jj < 12288 := by omega
          have ao := fun (M : pm_M) => c_Mo_areaOf (d := d + 4) (mc := 0) (ms := 0) (M := M) (a := e.1) (b := e.2.1)
          rw [← hjj] at rb ao
          obtain ⟨bw, hbw⟩ : ∃ b, b = BW T 0 e.1 e.2.1 := ⟨_, rfl⟩
          replace rb : pm_ct K 142 jj = (bw : Int) := by rw [hbw]; exact rb
          rw [← hbw] at gc bs gle
          obtain ⟨pd, hpd⟩ : ∃ q, q = wpc T L r c g := ⟨_, rfl⟩
          rw [← hpd] at gc gle ⊢
          refine g_iload lk_258_166 rfl ?_
          refine g_iload_n lk_258_168 rfl ?_
          refine g_icmp (t := 205) lk_258_169 rfl (by first | (unfold pm_inI; omega) | exact pm_and_in _ _ | exact pm_shr_in _ _ | exact pm_or_in _ _ | exact pm_xor_in _ _ | exact pm_shl_in _ _ | exact pm_cmp_in _ _ | exact pm_b8_in _ | (unfold pm_inI; split <;> omega)) (by first | (unfold pm_inI; omega) | exact pm_and_in _ _ | exact pm_shr_in _ _ | exact pm_or_in _ _ | exact pm_xor_in _ _ | exact pm_shl_in _ _ | exact pm_cmp_in _ _ | exact pm_b8_in _ | (unfold pm_inI; split <;> omega)) (fun h1 => ?_) (fun h1 => ?_)
          · replace h1 : (g : Int) ≤ (g : Int) := h1
            refine g_iload lk_258_205 rfl ?_
            refine g_iload lk_258_207 rfl ?_
            refine g_aload_n lk_258_209 rfl ?_
            refine g_getfield lk_258_210 rfl (layK.on (by decide) rfl) (v := ((142 : Nat) : Int)) (layK.rf rfl) ?_
            refine g_aload_n lk_258_213 rfl ?_
            refine g_getfield lk_258_214 rfl (layK.on (by decide) rfl) (v := ((153 : Nat) : Int)) (layK.rf rfl) ?_
            refine g_iload lk_258_217 rfl ?_
            refine m_iaload (u := []) (M := K) lk_258_219 (layK.ay (by decide) rfl) (by omega) (j := k) (by omega) (v := (e.1 : Int)) c12.1 ?_
            refine g_aload_n lk_258_220 rfl ?_
            refine g_getfield lk_258_221 rfl (layK.on (by decide) rfl) (v := ((154 : Nat) : Int)) (layK.rf rfl) ?_
            refine g_iload lk_258_224 rfl ?_
            refine m_iaload (u := []) (M := K) lk_258_226 (layK.ay (by decide) rfl) (by omega) (j := k) (by omega) (v := (e.2.1 : Int)) c12.2 ?_
            refine g_static (Qc := _) lk_258_227 (by decide) rfl (Nat.le_of_ble_eq_true rfl) rfl rfl (Nat.le_of_ble_eq_true rfl) (Nat.le_of_ble_eq_true rfl) (Nat.zero_le _) (Nat.zero_le _) (ao _) ?_
            rintro _ N2 ⟨rfl, hN2⟩
            rw [hN2]
            show Wp _ 258 230 [(2, ((116 : Nat) : Int)), (0, (t : Int)), (0, (g : Int)), (0, v), (0, (a : Int)), (0, (b : Int)), (0, (r : Int)), (0, (c : Int)), (0, (y : Int)), (0, (k : Int)), (0, (pd : Int)), (0, (g : Int))] [(0, (jj : Int)), (2, ((142 : Nat) : Int)), (0, (pd : Int)), (0, (a : Int))] K _ _ _
            refine m_iaload (u := []) (M := K) lk_258_230 (layK.ay (by decide) rfl) (by omega) (j := jj) (by omega) (v := (bw : Int)) rb ?_
            refine g_iadd lk_258_231 ?_
            refine g_static (Qc := _) lk_258_232 (by decide) rfl (Nat.le_of_ble_eq_true rfl) rfl rfl (Nat.le_of_ble_eq_true rfl) (Nat.le_of_ble_eq_true rfl) (Nat.zero_le _) (Nat.zero_le _) (c_Mo_greater (by unfold pm_inI; omega) (by unfold pm_inI; omega)) ?_
            rintro _ N3 ⟨rfl, hN3⟩
            rw [hN3]
            show Wp _ 258 235 [(2, ((116 : Nat) : Int)), (0, (t : Int)), (0, (g : Int)), (0, v), (0, (a : Int)), (0, (b : Int)), (0, (r : Int)), (0, (c : Int)), (0, (y : Int)), (0, (k : Int)), (0, (pd : Int)), (0, (g : Int))] [(0, (max (a : Int) ((pd : Int) + (bw : Int))))] K _ _ _
            refine g_istore (ls' := [(2, ((116 : Nat) : Int)), (0, (t : Int)), (0, (g : Int)), (0, v), (0, (max (a : Int) ((pd : Int) + (bw : Int)))), (0, (b : Int)), (0, (r : Int)), (0, (c : Int)), (0, (y : Int)), (0, (k : Int)), (0, (pd : Int)), (0, (g : Int))]) lk_258_235 rfl rfl ?_
            refine g_iinc (ls' := [(2, ((116 : Nat) : Int)), (0, (t : Int)), (0, (g : Int)), (0, v), (0, (max (a : Int) ((pd : Int) + (bw : Int)))), (0, (b : Int)), (0, (r : Int)), (0, ((c : Int) + 1)), (0, (y : Int)), (0, (k : Int)), (0, (pd : Int)), (0, (g : Int))]) lk_258_237 rfl rfl rfl ?_
            refine g_goto (t := 64) lk_258_240 rfl ?_
            exact go _ _ _ _ _ _ _ hO (by rw [gc]; omega) (by rw [gw]; omega)
          · replace h1 : ¬ ((g : Int) ≤ (g : Int)) := h1
            omega
        | succ m ih =>
          intro i hi
          have ii := wi i (by omega)
          have i0 := wg i (by omega)
          have wi1 := wa i (by omega)
          obtain ⟨qn, hqn⟩ : ∃ q, q = wn L r c i := ⟨_, rfl⟩
          have ws : wpc T L r c (i + 1) = wpc T L r c i + prK T (ndA L (wn L r c i)).1 := rfl
          rw [← hqn] at ii i0 wi1 ws
          have y1 := (tmK.2 qn ii.2.1).1
          have a1 := (hD.2.2.2 qn ii.2.1).1
          obtain ⟨j1, hj1⟩ : ∃ j, j = 31 * t + qn := ⟨_, rfl⟩
          rw [← hj1] at y1
          have ej1 : (31 : Int) * (t : Int) + (qn : Int) = (j1 : Int) := by omega
          have j1l : j1 < 124 := by have := ii.2.1; omega
          obtain ⟨x1, hx1⟩ : ∃ x, x = (ndA L qn).1 := ⟨_, rfl⟩
          rw [← hx1] at y1 a1 i0 ws
          have cx : pm_ct K 120 x1 = (prK T x1 : Int) := by
            rcases (by omega : x1 = 1 ∨ x1 = 2) with e' | e'
            · rw [e']; exact moK.2.2.1
            · rw [e']; exact moK.2.2.2.1
          have go2 : ∀ z : Int, z = ((wpc T L r c (i + 1) : Nat) : Int) → Wp (d + 5) 258 166 [(2, ((116 : Nat) : Int)), (0, (t : Int)), (0, (g : Int)), (0, v), (0, (a : Int)), (0, (b : Int)), (0, (r : Int)), (0, (c : Int)), (0, (y : Int)), (0, (k : Int)), (0, z), (0, (i : Int) + 1)] [] K mc ms Q := fun z hz => by
            rw [hz]; exact ih (i + 1) (by omega)
          obtain ⟨pd, hpd⟩ : ∃ q, q = wpc T L r c i := ⟨_, rfl⟩
          rw [← hpd] at ws ⊢
          obtain ⟨pk, hpk1⟩ : ∃ q, q = prK T x1 := ⟨_, rfl⟩
          rw [← hpk1] at ws cx
          clear ih
          refine g_iload lk_258_166 rfl ?_
          refine g_iload_n lk_258_168 rfl ?_
          refine g_icmp (t := 205) lk_258_169 rfl (by first | (unfold pm_inI; omega) | exact pm_and_in _ _ | exact pm_shr_in _ _ | exact pm_or_in _ _ | exact pm_xor_in _ _ | exact pm_shl_in _ _ | exact pm_cmp_in _ _ | exact pm_b8_in _ | (unfold pm_inI; split <;> omega)) (by first | (unfold pm_inI; omega) | exact pm_and_in _ _ | exact pm_shr_in _ _ | exact pm_or_in _ _ | exact pm_xor_in _ _ | exact pm_shl_in _ _ | exact pm_cmp_in _ _ | exact pm_b8_in _ | (unfold pm_inI; split <;> omega)) (fun h1 => ?_) (fun h1 => ?_)
          · replace h1 : (g : Int) ≤ (i : Int) := h1
            omega
          · replace h1 : ¬ ((g : Int) ≤ (i : Int)) := h1
            refine g_iload lk_258_172 rfl ?_
            refine g_aload_n lk_258_174 rfl ?_
            refine g_getfield lk_258_175 rfl (layK.on (by decide) rfl) (v := ((120 : Nat) : Int)) (layK.rf rfl) ?_
            refine g_aload_n lk_258_178 rfl ?_
            refine g_getfield lk_258_179 rfl (layK.on (by decide) rfl) (v := ((123 : Nat) : Int)) (layK.rf rfl) ?_
            refine g_bipush lk_258_182 ?_
            refine g_iload_n lk_258_184 rfl ?_
            refine g_imul lk_258_185 ?_
            refine g_aload_n lk_258_186 rfl ?_
            refine g_getfield lk_258_187 rfl (layK.on (by decide) rfl) (v := ((151 : Nat) : Int)) (layK.rf rfl) ?_
            refine g_iload lk_258_190 rfl ?_
            refine m_iaload (u := []) (M := K) lk_258_192 (layK.ay (by decide) rfl) (by omega) (j := i) (by omega) (v := (qn : Int)) wi1 ?_
            refine g_iadd lk_258_193 ?_
            refine g_top (z := ((31 * (t : Int)) + (qn : Int))) (z' := (j1 : Int)) (ej1) ?_
            refine m_iaload (u := []) (M := K) lk_258_194 (layK.ay (by decide) rfl) (by omega) (j := j1) (by omega) (v := (x1 : Int)) y1 ?_
            refine m_iaload (u := []) (M := K) lk_258_195 (layK.ay (by decide) rfl) (by omega) (j := x1) (by omega) (v := (pk : Int)) cx ?_
            refine g_iadd lk_258_196 ?_
            refine g_istore (ls' := [(2, ((116 : Nat) : Int)), (0, (t : Int)), (0, (g : Int)), (0, v), (0, (a : Int)), (0, (b : Int)), (0, (r : Int)), (0, (c : Int)), (0, (y : Int)), (0, (k : Int)), (0, ((pd : Int) + (pk : Int))), (0, (i : Int))]) lk_258_197 rfl rfl ?_
            refine g_iinc (ls' := [(2, ((116 : Nat) : Int)), (0, (t : Int)), (0, (g : Int)), (0, v), (0, (a : Int)), (0, (b : Int)), (0, (r : Int)), (0, (c : Int)), (0, (y : Int)), (0, (k : Int)), (0, ((pd : Int) + (pk : Int))), (0, ((i : Int) + 1))]) lk_258_199 rfl rfl rfl ?_
            refine g_goto (t := 166) lk_258_202 rfl ?_
            exact go2 _ (by rw [ws]; omega)
      refine g_aload_n lk_258_73 rfl ?_
      refine g_getfield lk_258_74 rfl (lay.on (by decide) rfl) (v := ((124 : Nat) : Int)) (lay.rf rfl) ?_
      refine g_bipush lk_258_77 ?_
      refine g_iload_n lk_258_79 rfl ?_
      refine g_imul lk_258_80 ?_
      refine g_aload_n lk_258_81 rfl ?_
      refine g_iload_n lk_258_82 rfl ?_
      refine g_iload lk_258_83 rfl ?_
      refine g_iload lk_258_85 rfl ?_
      refine g_virtual (p := 116) (Qc := _) lk_258_87 rfl (Nat.le_of_ble_eq_true rfl) rfl rfl (lay.on (by decide) rfl) (Nat.le_of_ble_eq_true rfl) (Nat.le_of_ble_eq_true rfl) (Nat.zero_le _) (Nat.zero_le _) (gs) ?_
      rintro _ K1 ⟨rfl, lay1, mf1, c59, c60, c61, wa1, we1⟩
      have mfK := mf.trans (mn2 mf1)
      have rd1 : pm_ct K1 124 j = (y : Int) := (by rw [mf1.ct (by decide) (by decide)]; exact rd)
      have okK : OkG M K1 T L p := ⟨lay1, mfK, clN.mf mf1 (by decide) (by decide) (by decide) (by decide), coN.mf mf1 (by decide) (by decide)⟩
      have waK : ∀ i, i ≤ g → pm_ct K1 151 i = (wn L r c i : Int) := (fun i hi => by by_cases z : i = n; rw [z, we1, e9]; exact (wa1 i (by omega)).1)
      have wk1 : pm_ct K1 151 g = (k : Int) := (by rw [hk]; exact waK g (Nat.le_refl _))
      show Wp _ 258 90 [(2, ((116 : Nat) : Int)), (0, (t : Int)), (0, (g : Int)), (0, v), (0, (a : Int)), (0, (b : Int)), (0, (r : Int)), (0, (c : Int)), v8, v9, v10, v11] [(0, (k0 : Int)), (0, (31 * (t : Int))), (2, ((124 : Nat) : Int))] K1 _ _ _
      refine g_iadd lk_258_90 ?_
      refine g_top (z := ((31 * (t : Int)) + (k0 : Int))) (z' := (j : Int)) (ej) ?_
      refine m_iaload (u := []) (M := K1) lk_258_91 (lay1.ay (by decide) rfl) (by omega) (j := j) (by omega) (v := (y : Int)) rd1 ?_
      refine g_istore (ls' := [(2, ((116 : Nat) : Int)), (0, (t : Int)), (0, (g : Int)), (0, v), (0, (a : Int)), (0, (b : Int)), (0, (r : Int)), (0, (c : Int)), (0, (y : Int)), v9, v10, v11]) lk_258_92 rfl rfl ?_
      refine g_aload_n lk_258_94 rfl ?_
      refine m_getfield (u := []) (M := K1) lk_258_95 rfl (lay1.on (by decide) rfl) (v := (n : Int)) c59 ?_
      refine g_iload_n lk_258_98 rfl ?_
      refine g_icmp (t := 152) lk_258_99 rfl (by first | (unfold pm_inI; omega) | exact pm_and_in _ _ | exact pm_shr_in _ _ | exact pm_or_in _ _ | exact pm_xor_in _ _ | exact pm_shl_in _ _ | exact pm_cmp_in _ _ | exact pm_b8_in _ | (unfold pm_inI; split <;> omega)) (by first | (unfold pm_inI; omega) | exact pm_and_in _ _ | exact pm_shr_in _ _ | exact pm_or_in _ _ | exact pm_xor_in _ _ | exact pm_shl_in _ _ | exact pm_cmp_in _ _ | exact pm_b8_in _ | (unfold pm_inI; split <;> omega)) (fun h1 => ?_) (fun h1 => ?_)
      · replace h1 : (g : Int) ≤ (n : Int) := h1
        refine g_aload_n lk_258_152 rfl ?_
        refine g_getfield lk_258_153 rfl (lay1.on (by decide) rfl) (v := ((151 : Nat) : Int)) (lay1.rf rfl) ?_
        refine g_iload_n lk_258_156 rfl ?_
        refine m_iaload (u := []) (M := K1) lk_258_157 (lay1.ay (by decide) rfl) (by omega) (j := g) (by omega) (v := (k : Int)) wk1 ?_
        refine g_istore (ls' := [(2, ((116 : Nat) : Int)), (0, (t : Int)), (0, (g : Int)), (0, v), (0, (a : Int)), (0, (b : Int)), (0, (r : Int)), (0, (c : Int)), (0, (y : Int)), (0, (k : Int)), v10, v11]) lk_258_158 rfl rfl ?_
        refine g_iconst lk_258_160 ?_
        refine g_istore (ls' := [(2, ((116 : Nat) : Int)), (0, (t : Int)), (0, (g : Int)), (0, v), (0, (a : Int)), (0, (b : Int)), (0, (r : Int)), (0, (c : Int)), (0, (y : Int)), (0, (k : Int)), (0, 0), v11]) lk_258_161 rfl rfl ?_
        refine g_iconst lk_258_163 ?_
        refine g_istore (ls' := [(2, ((116 : Nat) : Int)), (0, (t : Int)), (0, (g : Int)), (0, v), (0, (a : Int)), (0, (b : Int)), (0, (r : Int)), (0, (c : Int)), (0, (y : Int)), (0, (k : Int)), (0, 0), (0, 0)]) lk_258_164 rfl rfl ?_
        exact loop2 K1 okK waK g 0 (by omega)
      · replace h1 : ¬ ((g : Int) ≤ (n : Int)) := h1
        omega
  have inner : ∀ (r : Nat), r < tR T → (∀ (v7 v8 v9 v10 v11 : pm_V) (N : pm_M), OkG M N T L p → Wp (d + 5) 258 52 [(2, ((116 : Nat) : Int)), (0, (t : Int)), (0, (g : Int)), (0, v), (0, ((pX T (gCel T L p g) (r + 1) 0 : Nat) : Int)), (0, ((pS T (wrA T L g) (r + 1) 0 : Nat) : Int)), (0, ((r + 1 : Nat) : Int)), v7, v8, v9, v10, v11] [] N mc ms Q) → ∀ (n c : Nat) (v8 v9 v10 v11 : pm_V) (N : pm_M), c + n = tC T → OkG M N T L p → Wp (d + 5) 258 64 [(2, ((116 : Nat) : Int)), (0, (t : Int)), (0, (g : Int)), (0, v), (0, ((pX T (gCel T L p g) r c : Nat) : Int)), (0, ((pS T (wrA T L g) r c : Nat) : Int)), (0, (r : Int)), (0, (c : Int)), v8, v9, v10, v11] [] N mc ms Q := by
    intro r hr go n
    induction n with
    | zero =>
      intro c v8 v9 v10 v11 N hi hO
      have lay := hO.1
      have m2 := (mo' hO.2.1).2.1
      have e : c = tC T := by omega
      rw [e, ← pX_r, ← pS_r]
      refine g_iload lk_258_64 rfl ?_
      refine g_aload_n lk_258_66 rfl ?_
      refine m_getfield (u := []) (M := N) lk_258_67 rfl (lay.on (by decide) rfl) (v := (tC T : Int)) m2 ?_
      refine g_icmp (t := 243) lk_258_70 rfl (by first | (unfold pm_inI; omega) | exact pm_and_in _ _ | exact pm_shr_in _ _ | exact pm_or_in _ _ | exact pm_xor_in _ _ | exact pm_shl_in _ _ | exact pm_cmp_in _ _ | exact pm_b8_in _ | (unfold pm_inI; split <;> omega)) (by first | (unfold pm_inI; omega) | exact pm_and_in _ _ | exact pm_shr_in _ _ | exact pm_or_in _ _ | exact pm_xor_in _ _ | exact pm_shl_in _ _ | exact pm_cmp_in _ _ | exact pm_b8_in _ | (unfold pm_inI; split <;> omega)) (fun h1 => ?_) (fun h1 => ?_)
      · replace h1 : (tC T : Int) ≤ (tC T : Int) := h1
        refine g_iinc (ls' := [(2, ((116 : Nat) : Int)), (0, (t : Int)), (0, (g : Int)), (0, v), (0, ((pX T (gCel T L p g) (r + 1) 0 : Nat) : Int)), (0, ((pS T (wrA T L g) (r + 1) 0 : Nat) : Int)), (0, ((r : Int) + 1)), (0, (tC T : Int)), v8, v9, v10, v11]) lk_258_243 rfl rfl rfl ?_
        refine g_goto (t := 52) lk_258_246 rfl ?_
        exact go _ _ _ _ _ _ hO
      · replace h1 : ¬ ((tC T : Int) ≤ (tC T : Int)) := h1
        omega
    | succ n ih =>
      intro c v8 v9 v10 v11 N hi hO
      have lay := hO.1
      have m2 := (mo' hO.2.1).2.1
      have px := pX_leT gl (r := r) (c := c) (by omega) (Or.inr ⟨hr, by omega⟩)
      have s1 := step r c (pX T (gCel T L p g) r c) (pS T (wrA T L g) r c) v8 v9 v10 v11 N hr (by omega) px hO (fun z z' w8 w9 w10 w11 K hK hz hz' => by
        rw [hz, hz', ← pX_s, ← pS_s]; exact ih (c + 1) w8 w9 w10 w11 K (by omega) hK)
      refine g_iload lk_258_64 rfl ?_
      refine g_aload_n lk_258_66 rfl ?_
      refine m_getfield (u := []) (M := N) lk_258_67 rfl (lay.on (by decide) rfl) (v := (tC T : Int)) m2 ?_
      refine g_icmp (t := 243) lk_258_70 rfl (by first | (unfold pm_inI; omega) | exact pm_and_in _ _ | exact pm_shr_in _ _ | exact pm_or_in _ _ | exact pm_xor_in _ _ | exact pm_shl_in _ _ | exact pm_cmp_in _ _ | exact pm_b8_in _ | (unfold pm_inI; split <;> omega)) (by first | (unfold pm_inI; omega) | exact pm_and_in _ _ | exact pm_shr_in _ _ | exact pm_or_in _ _ | exact pm_xor_in _ _ | exact pm_shl_in _ _ | exact pm_cmp_in _ _ | exact pm_b8_in _ | (unfold pm_inI; split <;> omega)) (fun h1 => ?_) (fun h1 => ?_)
      · replace h1 : (tC T : Int) ≤ (c : Int) := h1
        omega
      · replace h1 : ¬ ((tC T : Int) ≤ (c : Int)) := h1
        exact s1
  have outer : ∀ (n r : Nat) (v7 v8 v9 v10 v11 : pm_V) (N : pm_M), r + n = tR T → OkG M N T L p → Wp (d + 5) 258 52 [(2, ((116 : Nat) : Int)), (0, (t : Int)), (0, (g : Int)), (0, v), (0, ((pX T (gCel T L p g) r 0 : Nat) : Int)), (0, ((pS T (wrA T L g) r 0 : Nat) : Int)), (0, (r : Int)), v7, v8, v9, v10, v11] [] N mc ms Q := by
    intro n
    induction n with
    | zero =>
      intro r v7 v8 v9 v10 v11 N hi hO
      have lay := hO.1
      have m1 := (mo' hO.2.1).1
      have e : r = tR T := by omega
      rw [e, pX_e, pS_e]
      refine g_iload lk_258_52 rfl ?_
      refine g_aload_n lk_258_54 rfl ?_
      refine m_getfield (u := []) (M := N) lk_258_55 rfl (lay.on (by decide) rfl) (v := (tR T : Int)) m1 ?_
      refine g_icmp (t := 249) lk_258_58 rfl (by first | assumption | (unfold pm_inI; omega)) (by first | assumption | (unfold pm_inI; omega)) (fun h1 => ?_) (fun h1 => ?_)
      · replace h1 : (tR T : Int) ≤ (tR T : Int) := h1
        refine g_iload_n lk_258_249 rfl ?_
        refine g_if (t := 258) lk_258_250 rfl (by first | assumption | (unfold pm_inI; omega)) (fun h2 => ?_) (fun h2 => ?_)
        · replace h2 : ¬ v = 0 := h2
          refine g_iload lk_258_258 rfl ?_
          refine g_ireturn lk_258_260 (fun h => absurd h (by decide)) ?_
          rw [hQ]
          exact ⟨by rw [if_neg (by omega), if_pos (by omega)], lay, hO.2.1, 1, hO.2.2.1⟩
        · replace h2 : ¬ (¬ v = 0) := h2
          refine g_iload lk_258_253 rfl ?_
          refine g_goto (t := 260) lk_258_255 rfl ?_
          refine g_ireturn lk_258_260 (fun h => absurd h (by decide)) ?_
          rw [hQ]
          exact ⟨by rw [if_pos (by omega)], lay, hO.2.1, 1, hO.2.2.1⟩
      · replace h1 : ¬ ((tR T : Int) ≤ (tR T : Int)) := h1
        omega
    | succ n ih =>
      intro r v7 v8 v9 v10 v11 N hi hO
      have lay := hO.1
      have m1 := (mo' hO.2.1).1
      refine g_iload lk_258_52 rfl ?_
      refine g_aload_n lk_258_54 rfl ?_
      refine m_getfield (u := []) (M := N) lk_258_55 rfl (lay.on (by decide) rfl) (v := (tR T : Int)) m1 ?_
      refine g_icmp (t := 249) lk_258_58 rfl (by first | (unfold pm_inI; omega) | exact pm_and_in _ _ | exact pm_shr_in _ _ | exact pm_or_in _ _ | exact pm_xor_in _ _ | exact pm_shl_in _ _ | exact pm_cmp_in _ _ | exact pm_b8_in _ | (unfold pm_inI; split <;> omega)) (by first | (unfold pm_inI; omega) | exact pm_and_in _ _ | exact pm_shr_in _ _ | exact pm_or_in _ _ | exact pm_xor_in _ _ | exact pm_shl_in _ _ | exact pm_cmp_in _ _ | exact pm_b8_in _ | (unfold pm_inI; split <;> omega)) (fun h1 => ?_) (fun h1 => ?_)
      · replace h1 : (tR T : Int) ≤ (r : Int) := h1
        omega
      · replace h1 : ¬ ((tR T : Int) ≤ (r : Int)) := h1
        refine g_iconst lk_258_61 ?_
        refine g_istore (ls' := [(2, ((116 : Nat) : Int)), (0, (t : Int)), (0, (g : Int)), (0, v), (0, ((pX T (gCel T L p g) r 0 : Nat) : Int)), (0, ((pS T (wrA T L g) r 0 : Nat) : Int)), (0, (r : Int)), (0, 0), v8, v9, v10, v11]) lk_258_62 rfl rfl ?_
        exact inner r (by omega) (fun w7 w8 w9 w10 w11 K hK => ih (r + 1) w7 w8 w9 w10 w11 K (by omega) hK) (tC T) 0 _ _ _ _ N (by omega) hO
  have tm := tm0.mf th (by decide) (by decide) (by decide) (by decide)
  have ly := fun l => c_Mo_lay (d := d) (mc := 0) (ms := 0) (M := Mu [(116, pm_upd (pm_ct M 116) 0 0)] M) l hT mo cl
  refine g_aload_n lk_258_0 rfl ?_
  refine g_iconst lk_258_1 ?_
  have lay1 : Lay (Mu [(116, pm_upd (pm_ct M 116) 0 0)] M) := lay0.muF (l := []) (a := 116) (k := 0) (z := 0) rfl rfl
  refine m_putfield (u := []) (u' := [(116, pm_upd (pm_ct M 116) 0 0)]) (M := M) lk_258_2 rfl (lay0.on (by decide) rfl) (fun h => absurd h (by decide)) rfl ?_
  refine g_aload_n lk_258_5 rfl ?_
  refine g_iload_n lk_258_6 rfl ?_
  refine g_virtual (p := 116) (Qc := _) lk_258_7 rfl (Nat.le_of_ble_eq_true rfl) rfl rfl (lay1.on (by decide) rfl) (Nat.le_of_ble_eq_true rfl) (Nat.le_of_ble_eq_true rfl) (Nat.zero_le _) (Nat.zero_le _) (it lay1) ?_
  rintro _ N2 ⟨rfl, hN2⟩
  rw [hN2]
  show Wp _ 258 10 [(2, ((116 : Nat) : Int)), (0, (t : Int)), (0, (g : Int)), (0, v), (9, 0), (9, 0), (9, 0), (9, 0), (9, 0), (9, 0), (9, 0), (9, 0)] [(0, 1)] (Mu [(116, pm_upd (pm_ct M 116) 0 0)] M) _ _ _
  refine g_if (t := 32) lk_258_10 rfl (by first | (unfold pm_inI; omega) | exact pm_and_in _ _ | exact pm_shr_in _ _ | exact pm_or_in _ _ | exact pm_xor_in _ _ | exact pm_shl_in _ _ | exact pm_cmp_in _ _ | exact pm_b8_in _ | (unfold pm_inI; split <;> omega)) (fun h => absurd h (show ¬ ((1 : Int) = (0 : Int)) by omega)) (fun _ => ?_)
  refine g_iload_n lk_258_13 rfl ?_
  refine g_iconst lk_258_14 ?_
  refine g_bipush lk_258_15 ?_
  refine g_static (Qc := _) lk_258_17 (by decide) rfl (Nat.le_of_ble_eq_true rfl) rfl rfl (Nat.le_of_ble_eq_true rfl) (Nat.le_of_ble_eq_true rfl) (Nat.zero_le _) (Nat.zero_le _) (ig _) ?_
  rintro _ N3 ⟨rfl, hN3⟩
  rw [hN3]
  show Wp _ 258 20 [(2, ((116 : Nat) : Int)), (0, (t : Int)), (0, (g : Int)), (0, v), (9, 0), (9, 0), (9, 0), (9, 0), (9, 0), (9, 0), (9, 0), (9, 0)] [(0, 1)] (Mu [(116, pm_upd (pm_ct M 116) 0 0)] M) _ _ _
  refine g_if (t := 32) lk_258_20 rfl (by first | (unfold pm_inI; omega) | exact pm_and_in _ _ | exact pm_shr_in _ _ | exact pm_or_in _ _ | exact pm_xor_in _ _ | exact pm_shl_in _ _ | exact pm_cmp_in _ _ | exact pm_b8_in _ | (unfold pm_inI; split <;> omega)) (fun h => absurd h (show ¬ ((1 : Int) = (0 : Int)) by omega)) (fun _ => ?_)
  refine g_iload_n lk_258_23 rfl ?_
  refine g_iconst lk_258_24 ?_
  refine g_iconst lk_258_25 ?_
  refine g_static (Qc := _) lk_258_26 (by decide) rfl (Nat.le_of_ble_eq_true rfl) rfl rfl (Nat.le_of_ble_eq_true rfl) (Nat.le_of_ble_eq_true rfl) (Nat.zero_le _) (Nat.zero_le _) (iv _) ?_
  rintro _ N4 ⟨rfl, hN4⟩
  rw [hN4]
  show Wp _ 258 29 [(2, ((116 : Nat) : Int)), (0, (t : Int)), (0, (g : Int)), (0, v), (9, 0), (9, 0), (9, 0), (9, 0), (9, 0), (9, 0), (9, 0), (9, 0)] [(0, 1)] (Mu [(116, pm_upd (pm_ct M 116) 0 0)] M) _ _ _
  refine g_if (t := 34) lk_258_29 rfl (by first | (unfold pm_inI; omega) | exact pm_and_in _ _ | exact pm_shr_in _ _ | exact pm_or_in _ _ | exact pm_xor_in _ _ | exact pm_shl_in _ _ | exact pm_cmp_in _ _ | exact pm_b8_in _ | (unfold pm_inI; split <;> omega)) (fun _ => ?_) (fun h => absurd (show ¬ (1 : Int) = (0 : Int) by omega) h)
  refine g_aload_n lk_258_34 rfl ?_
  refine g_virtual (p := 116) (Qc := _) lk_258_35 rfl (Nat.le_of_ble_eq_true rfl) rfl rfl (lay1.on (by decide) rfl) (Nat.le_of_ble_eq_true rfl) (Nat.le_of_ble_eq_true rfl) (Nat.zero_le _) (Nat.zero_le _) (ly lay1) ?_
  rintro _ K1 ⟨rfl, lay1, mf1, cl1⟩
  have mfa : MF [142, 143, 144, 151, 152, 153, 154] [0, 49, 59, 60, 61] M K1 := th.trans (mf1.mono (fun a q => by simp at q ⊢; omega) (fun a q => by simp at q ⊢; omega))
  have lc := c_Mo_layComers (d := d + 3) (mc := 0) (ms := 0) lay1 hT (mo' mfa) hD hp (show t < 4 by omega) (tr' mfa)
  show Wp _ 258 38 [(2, ((116 : Nat) : Int)), (0, (t : Int)), (0, (g : Int)), (0, v), (9, 0), (9, 0), (9, 0), (9, 0), (9, 0), (9, 0), (9, 0), (9, 0)] [] K1 _ _ _
  refine g_aload_n lk_258_38 rfl ?_
  refine g_iload_n lk_258_39 rfl ?_
  refine g_virtual (p := 116) (Qc := _) lk_258_40 rfl (Nat.le_of_ble_eq_true rfl) rfl rfl (lay1.on (by decide) rfl) (Nat.le_of_ble_eq_true rfl) (Nat.le_of_ble_eq_true rfl) (Nat.zero_le _) (Nat.zero_le _) (lc) ?_
  rintro _ K2 ⟨rfl, lay2, mf2, co2⟩
  have okK : OkG M K2 T L p := ⟨lay2, mfa.trans (mf2.mono (fun a q => by simp at q ⊢; omega) (fun a q => by cases q)), cl1.mf mf2 (by decide) (by decide) (by decide) (by decide), co2⟩
  show Wp _ 258 43 [(2, ((116 : Nat) : Int)), (0, (t : Int)), (0, (g : Int)), (0, v), (9, 0), (9, 0), (9, 0), (9, 0), (9, 0), (9, 0), (9, 0), (9, 0)] [] K2 _ _ _
  refine g_iconst lk_258_43 ?_
  refine g_istore (ls' := [(2, ((116 : Nat) : Int)), (0, (t : Int)), (0, (g : Int)), (0, v), (0, 0), (9, 0), (9, 0), (9, 0), (9, 0), (9, 0), (9, 0), (9, 0)]) lk_258_44 rfl rfl ?_
  refine g_iconst lk_258_46 ?_
  refine g_istore (ls' := [(2, ((116 : Nat) : Int)), (0, (t : Int)), (0, (g : Int)), (0, v), (0, 0), (0, 0), (9, 0), (9, 0), (9, 0), (9, 0), (9, 0), (9, 0)]) lk_258_47 rfl rfl ?_
  refine g_iconst lk_258_49 ?_
  refine g_istore (ls' := [(2, ((116 : Nat) : Int)), (0, (t : Int)), (0, (g : Int)), (0, v), (0, 0), (0, 0), (0, 0), (9, 0), (9, 0), (9, 0), (9, 0), (9, 0)]) lk_258_50 rfl rfl ?_
  exact outer (tR T) 0 _ _ _ _ _ _ (by omega) okK
