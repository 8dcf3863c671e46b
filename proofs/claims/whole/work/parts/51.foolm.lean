/-! ===== the model's fooling, fools ===== -/
theorem Look_0 {M : pm_M} (h : pm_ct M 116 43 = 0) (k : ∀ n, n ≤ 6 → pm_ct M 139 n = 0) : Look M [] :=
  ⟨⟨[], ⟨Or.inl rfl, fun q hq => (by cases hq)⟩, by decide, fun x hx => (by cases hx), h, fun j x hj => (by cases hj)⟩, k⟩
set_option maxHeartbeats 8000000 in
theorem c_Mo_layFooling {d mc ms : Nat} {M : pm_M} (lay0 : Lay M) {T : Tab} (hT : TabOK T) (hM0 : MoAt M T) {v : Nat} (hv : v < 10) :
    pm_E (d + 3) 222 [(2, ((116 : Nat) : Int)), (0, (v : Int))] M mc ms (fun ρ M' => ρ = none ∧ Lay M' ∧ MF [137, 138, 139] [43] M M' ∧ Look M' (EN T v (tR T) [])) := by
  obtain ⟨Q, hQ⟩ : ∃ Q : pm_Q, Q = (fun ρ M' => ρ = none ∧ Lay M' ∧ MF [137, 138, 139] [43] M M' ∧ Look M' (EN T v (tR T) [])) := ⟨_, rfl⟩
  rw [← hQ]
  have hR := hT.1
  have hC := hT.2.1
  have main : ∀ (k r : Nat) (N : pm_M) (V : List (List Nat)), r + k + 1 = tR T → Lay N → MF [137, 138, 139] [43] M N → Look N V → (∀ s, s < r → -1 ≤ pm_ct N 137 s ∧ pm_ct N 137 s < tC T) → pm_ct N 137 r = -2 →
      (∀ (N' : pm_M) (z : Int), Lay N' → MF [137, 138, 139] [43] M N' → Look N' (V ++ EN T v (k + 1) (PL (pm_ct N 137) r)) → (∀ s, s < r → pm_ct N' 137 s = pm_ct N 137 s) → z = (r : Int) - 1 → Wp (d + 3) 222 36 [(2, ((116 : Nat) : Int)), (0, (v : Int)), (0, z)] [] N' mc ms Q) →
      Wp (d + 3) 222 36 [(2, ((116 : Nat) : Int)), (0, (v : Int)), (0, (r : Int))] [] N mc ms Q := by
    intro k
    induction k with
    | zero =>
      intro r N V hr lay hF hL hg h2 exit
      have visit : ∀ (N1 : pm_M) (V1 : List (List Nat)), Lay N1 → MF [137, 138, 139] [43] M N1 → Look N1 V1 → (∀ s, s ≤ r → -1 ≤ pm_ct N1 137 s ∧ pm_ct N1 137 s < tC T) →
          (∀ N' : pm_M, Lay N' → MF [137, 138, 139] [43] M N' → Look N' (V1 ++ EN T v 0 (PL (pm_ct N1 137) (r + 1))) → (∀ s, s ≤ r → pm_ct N' 137 s = pm_ct N1 137 s) → Wp (d + 3) 222 36 [(2, ((116 : Nat) : Int)), (0, (v : Int)), (0, (r : Int))] [] N' mc ms Q) →
          Wp (d + 3) 222 78 [(2, ((116 : Nat) : Int)), (0, (v : Int)), (0, (r : Int))] [] N1 mc ms Q := by
        intro N1 V1 lay1 hF1 hL1 hg1 go
        have hM : MoAt N1 T := hM0.mf hF1 (by decide) (by decide) (by decide) (by decide)
        refine g_iload_n lk_222_78 rfl ?_
        refine g_aload_n lk_222_79 rfl ?_
        refine m_getfield (u := []) (M := N1) lk_222_80 rfl (lay1.on (by decide) rfl) (v := (tR T : Int)) hM.1 ?_
        refine g_iconst lk_222_83 ?_
        refine g_isub lk_222_84 ?_
        refine g_icmp (t := 95) lk_222_85 rfl (by first | (unfold pm_inI; omega) | exact pm_and_in _ _ | exact pm_shr_in _ _ | exact pm_or_in _ _ | exact pm_xor_in _ _ | exact pm_shl_in _ _ | exact pm_cmp_in _ _ | exact pm_b8_in _ | (unfold pm_inI; split <;> omega)) (by first | (unfold pm_inI; omega) | exact pm_and_in _ _ | exact pm_shr_in _ _ | exact pm_or_in _ _ | exact pm_xor_in _ _ | exact pm_shl_in _ _ | exact pm_cmp_in _ _ | exact pm_b8_in _ | (unfold pm_inI; split <;> omega)) (fun h1 => ?_) (fun h1 => ?_)
        · replace h1 : ¬ (r : Int) = ((tR T : Int) - 1) := h1
          omega
        · replace h1 : ¬ (¬ (r : Int) = ((tR T : Int) - 1)) := h1
          refine g_aload_n lk_222_88 rfl ?_
          refine g_virtual (p := 116) (Qc := _) lk_222_89 rfl (Nat.le_of_ble_eq_true rfl) rfl rfl (lay1.on (by decide) rfl) (Nat.le_of_ble_eq_true rfl) (Nat.le_of_ble_eq_true rfl) (Nat.zero_le _) (Nat.zero_le _) (c_Mo_looks (d := d + 2) lay1 hT hM (fun s hs => hg1 s (by omega)) hL1) ?_
          rintro _ N' ⟨rfl, l2, f2, L2⟩
          refine g_goto (t := 36) lk_222_92 rfl ?_
          refine go N' l2 (hF1.trans (f2.mono (fun a q => by simp at q; simp; omega) (fun a q => q))) ?_ (fun s hs => by rw [f2.ct (by decide) (by decide)])
          rw [show tR T = r + 1 by omega] at L2
          exact L2
      have cols : ∀ (m c : Nat) (N1 : pm_M) (V1 : List (List Nat)), c + m = tC T → Lay N1 → MF [137, 138, 139] [43] M N1 → Look N1 V1 → V1 ++ enf T v r (EN T v 0) (PL (pm_ct N 137) r) m c = V ++ EN T v (0 + 1) (PL (pm_ct N 137) r) → (∀ s, s < r → pm_ct N1 137 s = pm_ct N 137 s) → pm_ct N1 137 r = (c : Int) - 1 → Wp (d + 3) 222 36 [(2, ((116 : Nat) : Int)), (0, (v : Int)), (0, (r : Int))] [] N1 mc ms Q := by
        intro m
        induction m with
        | zero =>
          intro c N1 V1 hc lay1 hF1 hL1 hV hs hp
          have hM : MoAt N1 T := hM0.mf hF1 (by decide) (by decide) (by decide) (by decide)
          have hV : V1 ++ [] = _ := hV
          rw [List.append_nil] at hV
          rw [hV] at hL1
          refine g_iload_n lk_222_36 rfl ?_
          refine g_if (t := 109) lk_222_37 rfl (by first | (unfold pm_inI; omega) | exact pm_and_in _ _ | exact pm_shr_in _ _ | exact pm_or_in _ _ | exact pm_xor_in _ _ | exact pm_shl_in _ _ | exact pm_cmp_in _ _ | exact pm_b8_in _ | (unfold pm_inI; split <;> omega)) (fun h1 => ?_) (fun h1 => ?_)
          · replace h1 : (r : Int) < 0 := h1
            omega
          · replace h1 : ¬ ((r : Int) < 0) := h1
            refine g_aload_n lk_222_40 rfl ?_
            refine g_getfield lk_222_41 rfl (lay1.on (by decide) rfl) (v := ((137 : Nat) : Int)) (lay1.rf rfl) ?_
            refine g_iload_n lk_222_44 rfl ?_
            refine g_dup2 lk_222_45 rfl rfl ?_
            refine m_iaload (u := []) (M := N1) lk_222_46 (lay1.ay (by decide) rfl) (by omega) (j := r) (by omega) (v := ((c : Int) - 1)) hp ?_
            refine g_iconst lk_222_47 ?_
            refine g_iadd lk_222_48 ?_
            have lay2 : Lay (Mu [(137, pm_upd (pm_ct N1 137) r (((c : Int) - 1) + 1))] N1) := lay1.muA (l := []) (a := 137) (f := pm_upd (pm_ct N1 137) r (((c : Int) - 1) + 1)) rfl rfl
            refine m_iastore (u := []) (u' := [(137, pm_upd (pm_ct N1 137) r (((c : Int) - 1) + 1))]) (M := N1) lk_222_49 (lay1.ay (by decide) rfl) (by omega) (j := r) (by omega) rfl ?_
            refine g_aload_n lk_222_50 rfl ?_
            refine g_getfield lk_222_51 rfl (lay2.on (by decide) rfl) (v := ((137 : Nat) : Int)) (lay2.rf rfl) ?_
            refine g_iload_n lk_222_54 rfl ?_
            refine m_iaload (u := [(137, pm_upd (pm_ct N1 137) r (((c : Int) - 1) + 1))]) (M := N1) lk_222_55 (lay2.ay (by decide) rfl) (by omega) (j := r) (by omega) (v := (((c : Int) - 1) + 1)) (by first | rfl | exact pm_upd_eq _ _ _) ?_
            refine g_aload_n lk_222_56 rfl ?_
            refine m_getfield (u := [(137, pm_upd (pm_ct N1 137) r (((c : Int) - 1) + 1))]) (M := N1) lk_222_57 rfl (lay2.on (by decide) rfl) (v := (tC T : Int)) hM.2.1 ?_
            refine g_icmp (t := 69) lk_222_60 rfl (by first | (unfold pm_inI; omega) | exact pm_and_in _ _ | exact pm_shr_in _ _ | exact pm_or_in _ _ | exact pm_xor_in _ _ | exact pm_shl_in _ _ | exact pm_cmp_in _ _ | exact pm_b8_in _ | (unfold pm_inI; split <;> omega)) (by first | (unfold pm_inI; omega) | exact pm_and_in _ _ | exact pm_shr_in _ _ | exact pm_or_in _ _ | exact pm_xor_in _ _ | exact pm_shl_in _ _ | exact pm_cmp_in _ _ | exact pm_b8_in _ | (unfold pm_inI; split <;> omega)) (fun h3 => ?_) (fun h3 => ?_)
            · replace h3 : ¬ (((c : Int) - 1) + 1) = (tC T : Int) := h3
              omega
            · replace h3 : ¬ (¬ (((c : Int) - 1) + 1) = (tC T : Int)) := h3
              refine g_iinc (ls' := [(2, ((116 : Nat) : Int)), (0, (v : Int)), (0, ((r : Int) + (-1)))]) lk_222_63 rfl rfl rfl ?_
              refine g_goto (t := 36) lk_222_66 rfl ?_
              refine exit _ _ lay2 (hF1.trans (MF.mu _ _ rfl (fun j hj => rfl))) (hL1.of (by rw [Mu_ct]; rfl) (by rw [Mu_ct]; rfl) (by rw [Mu_ct]; rfl)) (fun s hs' => ?_) rfl
              rw [Mu_ct]
              show pm_upd (pm_ct N1 137) r _ s = _
              rw [pm_upd_ne (by omega)]; exact hs s hs'
        | succ m ihm =>
          intro c N1 V1 hc lay1 hF1 hL1 hV hs hp
          have hM : MoAt N1 T := hM0.mf hF1 (by decide) (by decide) (by decide) (by decide)
          rw [enf_s] at hV
          obtain ⟨N2, hN2⟩ : ∃ N2, N2 = Mu [(137, pm_upd (pm_ct N1 137) r (((c : Int) - 1) + 1))] N1 := ⟨_, rfl⟩
          have g2 : ∀ s, s < r → pm_ct N2 137 s = pm_ct N 137 s := fun s hs' => by
            rw [hN2, Mu_ct]
            show pm_upd (pm_ct N1 137) r _ s = _
            rw [pm_upd_ne (by omega)]; exact hs s hs'
          have g2r : pm_ct N2 137 r = (c : Int) := by
            rw [hN2, Mu_ct]
            show pm_upd (pm_ct N1 137) r _ r = _
            rw [pm_upd_eq]; omega
          have hF2 : MF [137, 138, 139] [43] M N2 := hF1.trans (by rw [hN2]; exact MF.mu _ _ rfl (fun j hj => rfl))
          have hL2 : Look N2 V1 := hL1.of (by rw [hN2, Mu_ct]; rfl) (by rw [hN2, Mu_ct]; rfl) (by rw [hN2, Mu_ct]; rfl)
          have hM2 : MoAt N2 T := hM0.mf hF2 (by decide) (by decide) (by decide) (by decide)
          have gg : ∀ s, s ≤ r → -1 ≤ pm_ct N2 137 s ∧ pm_ct N2 137 s < tC T := fun s hs' => by
            by_cases e : s = r
            · subst e; rw [g2r]; omega
            · rw [g2 s (by omega)]; exact hg s (by omega)
          have eP : PL (pm_ct N2 137) r = PL (pm_ct N 137) r := PL_congr g2
          have eP1 : PL (pm_ct N2 137) (r + 1) = PL (pm_ct N 137) r ++ [6 * r + c] := by rw [PL_s, g2r, if_neg (by omega), eP, Int.toNat_natCast]
          have k69 : Lay N2 → Wp (d + 3) 222 69 [(2, ((116 : Nat) : Int)), (0, (v : Int)), (0, (r : Int))] [] N2 mc ms Q := by
            intro lay2
            have ft := c_Mo_fits (d := d) (mc := 0) (ms := 0) lay2 hT hM2 (r := r) (v := v) (by omega) (by omega) gg
            rw [g2r, if_neg (by omega), Int.toNat_natCast, eP] at ft
            obtain ⟨b, hb⟩ : ∃ b, b = (tX T (6 * r + c) == v && okP T v (PL (pm_ct N 137) r) (6 * r + c)) := ⟨_, rfl⟩
            rw [← hb] at ft hV
            refine g_aload_n lk_222_69 rfl ?_
            refine g_iload_n lk_222_70 rfl ?_
            refine g_iload_n lk_222_71 rfl ?_
            refine g_virtual (p := 116) (Qc := _) lk_222_72 rfl (Nat.le_of_ble_eq_true rfl) rfl rfl (lay2.on (by decide) rfl) (Nat.le_of_ble_eq_true rfl) (Nat.le_of_ble_eq_true rfl) (Nat.zero_le _) (Nat.zero_le _) (ft) ?_
            rintro _ N1 ⟨rfl, hN1⟩
            rw [hN1]
            show Wp _ 222 75 [(2, ((116 : Nat) : Int)), (0, (v : Int)), (0, (r : Int))] [(0, (if b = true then (1 : Int) else 0))] N2 _ _ _
            refine g_if (t := 36) lk_222_75 rfl (by first | (unfold pm_inI; omega) | exact pm_and_in _ _ | exact pm_shr_in _ _ | exact pm_or_in _ _ | exact pm_xor_in _ _ | exact pm_shl_in _ _ | exact pm_cmp_in _ _ | exact pm_b8_in _ | (unfold pm_inI; split <;> omega)) (fun h2 => ?_) (fun h2 => ?_)
            · replace h2 : (if b = true then (1 : Int) else 0) = 0 := h2
              have b0 : b = false := by
                cases b with
                | false => rfl
                | true => rw [if_pos rfl] at h2; omega
              rw [b0] at hV
              exact ihm (c + 1) N2 V1 (by omega) lay2 hF2 hL2 hV g2 (by rw [g2r]; omega)
            · replace h2 : ¬ ((if b = true then (1 : Int) else 0) = 0) := h2
              have b1 : b = true := by
                cases b with
                | true => rfl
                | false => exact absurd rfl h2
              rw [b1, if_pos rfl, ← List.append_assoc] at hV
              refine visit N2 V1 lay2 hF2 hL2 gg (fun N' l3 f3 L3 g3 => ?_)
              rw [eP1] at L3
              exact ihm (c + 1) N' _ (by omega) l3 f3 L3 hV (fun s hs' => by rw [g3 s (by omega)]; exact g2 s hs') (by rw [g3 r (Nat.le_refl _), g2r]; omega)
          refine g_iload_n lk_222_36 rfl ?_
          refine g_if (t := 109) lk_222_37 rfl (by first | (unfold pm_inI; omega) | exact pm_and_in _ _ | exact pm_shr_in _ _ | exact pm_or_in _ _ | exact pm_xor_in _ _ | exact pm_shl_in _ _ | exact pm_cmp_in _ _ | exact pm_b8_in _ | (unfold pm_inI; split <;> omega)) (fun h1 => ?_) (fun h1 => ?_)
          · replace h1 : (r : Int) < 0 := h1
            omega
          · replace h1 : ¬ ((r : Int) < 0) := h1
            refine g_aload_n lk_222_40 rfl ?_
            refine g_getfield lk_222_41 rfl (lay1.on (by decide) rfl) (v := ((137 : Nat) : Int)) (lay1.rf rfl) ?_
            refine g_iload_n lk_222_44 rfl ?_
            refine g_dup2 lk_222_45 rfl rfl ?_
            refine m_iaload (u := []) (M := N1) lk_222_46 (lay1.ay (by decide) rfl) (by omega) (j := r) (by omega) (v := ((c : Int) - 1)) hp ?_
            refine g_iconst lk_222_47 ?_
            refine g_iadd lk_222_48 ?_
            have lay2 : Lay (Mu [(137, pm_upd (pm_ct N1 137) r (((c : Int) - 1) + 1))] N1) := lay1.muA (l := []) (a := 137) (f := pm_upd (pm_ct N1 137) r (((c : Int) - 1) + 1)) rfl rfl
            refine m_iastore (u := []) (u' := [(137, pm_upd (pm_ct N1 137) r (((c : Int) - 1) + 1))]) (M := N1) lk_222_49 (lay1.ay (by decide) rfl) (by omega) (j := r) (by omega) rfl ?_
            refine g_aload_n lk_222_50 rfl ?_
            refine g_getfield lk_222_51 rfl (lay2.on (by decide) rfl) (v := ((137 : Nat) : Int)) (lay2.rf rfl) ?_
            refine g_iload_n lk_222_54 rfl ?_
            refine m_iaload (u := [(137, pm_upd (pm_ct N1 137) r (((c : Int) - 1) + 1))]) (M := N1) lk_222_55 (lay2.ay (by decide) rfl) (by omega) (j := r) (by omega) (v := (((c : Int) - 1) + 1)) (by first | rfl | exact pm_upd_eq _ _ _) ?_
            refine g_aload_n lk_222_56 rfl ?_
            refine m_getfield (u := [(137, pm_upd (pm_ct N1 137) r (((c : Int) - 1) + 1))]) (M := N1) lk_222_57 rfl (lay2.on (by decide) rfl) (v := (tC T : Int)) hM.2.1 ?_
            refine g_icmp (t := 69) lk_222_60 rfl (by first | (unfold pm_inI; omega) | exact pm_and_in _ _ | exact pm_shr_in _ _ | exact pm_or_in _ _ | exact pm_xor_in _ _ | exact pm_shl_in _ _ | exact pm_cmp_in _ _ | exact pm_b8_in _ | (unfold pm_inI; split <;> omega)) (by first | (unfold pm_inI; omega) | exact pm_and_in _ _ | exact pm_shr_in _ _ | exact pm_or_in _ _ | exact pm_xor_in _ _ | exact pm_shl_in _ _ | exact pm_cmp_in _ _ | exact pm_b8_in _ | (unfold pm_inI; split <;> omega)) (fun h3 => ?_) (fun h3 => ?_)
            · replace h3 : ¬ (((c : Int) - 1) + 1) = (tC T : Int) := h3
              rw [hN2] at k69
              exact k69 lay2
            · replace h3 : ¬ (¬ (((c : Int) - 1) + 1) = (tC T : Int)) := h3
              refine g_iinc (ls' := [(2, ((116 : Nat) : Int)), (0, (v : Int)), (0, ((r : Int) + (-1)))]) lk_222_63 rfl rfl rfl ?_
              refine g_goto (t := 36) lk_222_66 rfl ?_
              omega
      -- none of this row first
      obtain ⟨N2, hN2⟩ : ∃ N2, N2 = Mu [(137, pm_upd (pm_ct N 137) r (-2 + 1))] N := ⟨_, rfl⟩
      have hM : MoAt N T := hM0.mf hF (by decide) (by decide) (by decide) (by decide)
      have g2 : ∀ s, s < r → pm_ct N2 137 s = pm_ct N 137 s := fun s hs' => by
        rw [hN2, Mu_ct]
        show pm_upd (pm_ct N 137) r _ s = _
        rw [pm_upd_ne (by omega)]
      have g2r : pm_ct N2 137 r = -1 := by
        rw [hN2, Mu_ct]
        show pm_upd (pm_ct N 137) r _ r = _
        rw [pm_upd_eq]; omega
      have hF2 : MF [137, 138, 139] [43] M N2 := hF.trans (by rw [hN2]; exact MF.mu _ _ rfl (fun j hj => rfl))
      have hL2 : Look N2 V := hL.of (by rw [hN2, Mu_ct]; rfl) (by rw [hN2, Mu_ct]; rfl) (by rw [hN2, Mu_ct]; rfl)
      have hM2 : MoAt N2 T := hM0.mf hF2 (by decide) (by decide) (by decide) (by decide)
      have gg : ∀ s, s ≤ r → -1 ≤ pm_ct N2 137 s ∧ pm_ct N2 137 s < tC T := fun s hs' => by
        by_cases e : s = r
        · subst e; rw [g2r]; omega
        · rw [g2 s (by omega)]; exact hg s (by omega)
      have eP1 : PL (pm_ct N2 137) (r + 1) = PL (pm_ct N 137) r := by rw [PL_s, g2r, if_pos rfl, PL_congr g2]
      have k69 : Lay N2 → Wp (d + 3) 222 69 [(2, ((116 : Nat) : Int)), (0, (v : Int)), (0, (r : Int))] [] N2 mc ms Q := by
        intro lay2
        have ft := c_Mo_fits (d := d) (mc := 0) (ms := 0) lay2 hT hM2 (r := r) (v := v) (by omega) (by omega) gg
        rw [if_pos g2r] at ft
        refine g_aload_n lk_222_69 rfl ?_
        refine g_iload_n lk_222_70 rfl ?_
        refine g_iload_n lk_222_71 rfl ?_
        refine g_virtual (p := 116) (Qc := _) lk_222_72 rfl (Nat.le_of_ble_eq_true rfl) rfl rfl (lay2.on (by decide) rfl) (Nat.le_of_ble_eq_true rfl) (Nat.le_of_ble_eq_true rfl) (Nat.zero_le _) (Nat.zero_le _) (ft) ?_
        rintro _ N1 ⟨rfl, hN1⟩
        rw [hN1]
        show Wp _ 222 75 [(2, ((116 : Nat) : Int)), (0, (v : Int)), (0, (r : Int))] [(0, 1)] N2 _ _ _
        refine g_if (t := 36) lk_222_75 rfl (by first | (unfold pm_inI; omega) | exact pm_and_in _ _ | exact pm_shr_in _ _ | exact pm_or_in _ _ | exact pm_xor_in _ _ | exact pm_shl_in _ _ | exact pm_cmp_in _ _ | exact pm_b8_in _ | (unfold pm_inI; split <;> omega)) (fun h => absurd h (show ¬ ((1 : Int) = (0 : Int)) by omega)) (fun _ => ?_)
        refine visit N2 V lay2 hF2 hL2 gg (fun N' l3 f3 L3 g3 => ?_)
        rw [eP1] at L3
        refine cols (tC T) 0 N' _ (by omega) l3 f3 L3 ?_ (fun s hs' => by rw [g3 s (by omega)]; exact g2 s hs') (by rw [g3 r (Nat.le_refl _), g2r]; omega)
        rw [EN_s T v 0, enf_eq, List.append_assoc, show tR T - (0 + 1) = r by omega]
      refine g_iload_n lk_222_36 rfl ?_
      refine g_if (t := 109) lk_222_37 rfl (by first | (unfold pm_inI; omega) | exact pm_and_in _ _ | exact pm_shr_in _ _ | exact pm_or_in _ _ | exact pm_xor_in _ _ | exact pm_shl_in _ _ | exact pm_cmp_in _ _ | exact pm_b8_in _ | (unfold pm_inI; split <;> omega)) (fun h1 => ?_) (fun h1 => ?_)
      · replace h1 : (r : Int) < 0 := h1
        omega
      · replace h1 : ¬ ((r : Int) < 0) := h1
        refine g_aload_n lk_222_40 rfl ?_
        refine g_getfield lk_222_41 rfl (lay.on (by decide) rfl) (v := ((137 : Nat) : Int)) (lay.rf rfl) ?_
        refine g_iload_n lk_222_44 rfl ?_
        refine g_dup2 lk_222_45 rfl rfl ?_
        refine m_iaload (u := []) (M := N) lk_222_46 (lay.ay (by decide) rfl) (by omega) (j := r) (by omega) (v := (-2)) h2 ?_
        refine g_iconst lk_222_47 ?_
        refine g_iadd lk_222_48 ?_
        have lay2 : Lay (Mu [(137, pm_upd (pm_ct N 137) r ((-2) + 1))] N) := lay.muA (l := []) (a := 137) (f := pm_upd (pm_ct N 137) r ((-2) + 1)) rfl rfl
        refine m_iastore (u := []) (u' := [(137, pm_upd (pm_ct N 137) r ((-2) + 1))]) (M := N) lk_222_49 (lay.ay (by decide) rfl) (by omega) (j := r) (by omega) rfl ?_
        refine g_aload_n lk_222_50 rfl ?_
        refine g_getfield lk_222_51 rfl (lay2.on (by decide) rfl) (v := ((137 : Nat) : Int)) (lay2.rf rfl) ?_
        refine g_iload_n lk_222_54 rfl ?_
        refine m_iaload (u := [(137, pm_upd (pm_ct N 137) r ((-2) + 1))]) (M := N) lk_222_55 (lay2.ay (by decide) rfl) (by omega) (j := r) (by omega) (v := ((-2) + 1)) (by first | rfl | exact pm_upd_eq _ _ _) ?_
        refine g_aload_n lk_222_56 rfl ?_
        refine m_getfield (u := [(137, pm_upd (pm_ct N 137) r ((-2) + 1))]) (M := N) lk_222_57 rfl (lay2.on (by decide) rfl) (v := (tC T : Int)) hM.2.1 ?_
        refine g_icmp (t := 69) lk_222_60 rfl (by first | (unfold pm_inI; omega) | exact pm_and_in _ _ | exact pm_shr_in _ _ | exact pm_or_in _ _ | exact pm_xor_in _ _ | exact pm_shl_in _ _ | exact pm_cmp_in _ _ | exact pm_b8_in _ | (unfold pm_inI; split <;> omega)) (by first | (unfold pm_inI; omega) | exact pm_and_in _ _ | exact pm_shr_in _ _ | exact pm_or_in _ _ | exact pm_xor_in _ _ | exact pm_shl_in _ _ | exact pm_cmp_in _ _ | exact pm_b8_in _ | (unfold pm_inI; split <;> omega)) (fun h3 => ?_) (fun h3 => ?_)
        · replace h3 : ¬ ((-2) + 1) = (tC T : Int) := h3
          rw [hN2] at k69
          exact k69 lay2
        · replace h3 : ¬ (¬ ((-2) + 1) = (tC T : Int)) := h3
          refine g_iinc (ls' := [(2, ((116 : Nat) : Int)), (0, (v : Int)), (0, ((r : Int) + (-1)))]) lk_222_63 rfl rfl rfl ?_
          refine g_goto (t := 36) lk_222_66 rfl ?_
          omega
    | succ k ih =>
      intro r N V hr lay hF hL hg h2 exit
      have visit : ∀ (N1 : pm_M) (V1 : List (List Nat)), Lay N1 → MF [137, 138, 139] [43] M N1 → Look N1 V1 → (∀ s, s ≤ r → -1 ≤ pm_ct N1 137 s ∧ pm_ct N1 137 s < tC T) →
          (∀ N' : pm_M, Lay N' → MF [137, 138, 139] [43] M N' → Look N' (V1 ++ EN T v (k + 1) (PL (pm_ct N1 137) (r + 1))) → (∀ s, s ≤ r → pm_ct N' 137 s = pm_ct N1 137 s) → Wp (d + 3) 222 36 [(2, ((116 : Nat) : Int)), (0, (v : Int)), (0, (r : Int))] [] N' mc ms Q) →
          Wp (d + 3) 222 78 [(2, ((116 : Nat) : Int)), (0, (v : Int)), (0, (r : Int))] [] N1 mc ms Q := by
        intro N1 V1 lay1 hF1 hL1 hg1 go
        have hM : MoAt N1 T := hM0.mf hF1 (by decide) (by decide) (by decide) (by decide)
        refine g_iload_n lk_222_78 rfl ?_
        refine g_aload_n lk_222_79 rfl ?_
        refine m_getfield (u := []) (M := N1) lk_222_80 rfl (lay1.on (by decide) rfl) (v := (tR T : Int)) hM.1 ?_
        refine g_iconst lk_222_83 ?_
        refine g_isub lk_222_84 ?_
        refine g_icmp (t := 95) lk_222_85 rfl (by first | (unfold pm_inI; omega) | exact pm_and_in _ _ | exact pm_shr_in _ _ | exact pm_or_in _ _ | exact pm_xor_in _ _ | exact pm_shl_in _ _ | exact pm_cmp_in _ _ | exact pm_b8_in _ | (unfold pm_inI; split <;> omega)) (by first | (unfold pm_inI; omega) | exact pm_and_in _ _ | exact pm_shr_in _ _ | exact pm_or_in _ _ | exact pm_xor_in _ _ | exact pm_shl_in _ _ | exact pm_cmp_in _ _ | exact pm_b8_in _ | (unfold pm_inI; split <;> omega)) (fun h1 => ?_) (fun h1 => ?_)
        · replace h1 : ¬ (r : Int) = ((tR T : Int) - 1) := h1
          refine g_iinc (ls' := [(2, ((116 : Nat) : Int)), (0, (v : Int)), (0, ((r : Int) + 1))]) lk_222_95 rfl rfl rfl ?_
          refine g_aload_n lk_222_98 rfl ?_
          refine g_getfield lk_222_99 rfl (lay1.on (by decide) rfl) (v := ((137 : Nat) : Int)) (lay1.rf rfl) ?_
          refine g_iload_n lk_222_102 rfl ?_
          refine g_bipush lk_222_103 ?_
          have lay2 : Lay (Mu [(137, pm_upd (pm_ct N1 137) (r + 1) (-2))] N1) := lay1.muA (l := []) (a := 137) (f := pm_upd (pm_ct N1 137) (r + 1) (-2)) rfl rfl
          refine m_iastore (u := []) (u' := [(137, pm_upd (pm_ct N1 137) (r + 1) (-2))]) (M := N1) lk_222_105 (lay1.ay (by decide) rfl) (by omega) (j := (r + 1)) (by omega) rfl ?_
          refine g_goto (t := 36) lk_222_106 rfl ?_
          refine ih (r + 1) _ V1 (by omega) lay2 (hF1.trans (MF.mu _ _ rfl (fun j hj => rfl))) (hL1.of (by rw [Mu_ct]; rfl) (by rw [Mu_ct]; rfl) (by rw [Mu_ct]; rfl)) (fun s hs => ?_) ?_ (fun N' z l2 f2 L2 g2 hz => ?_)
          · rw [Mu_ct]
            show _ ≤ pm_upd (pm_ct N1 137) (r + 1) _ s ∧ pm_upd (pm_ct N1 137) (r + 1) _ s < _
            rw [pm_upd_ne (by omega)]; exact hg1 s (by omega)
          · rw [Mu_ct]
            show pm_upd (pm_ct N1 137) (r + 1) _ (r + 1) = _
            rw [pm_upd_eq]
          · have e9 : ∀ s, s < r + 1 → pm_ct (Mu [(137, pm_upd (pm_ct N1 137) (r + 1) (-2))] N1) 137 s = pm_ct N1 137 s := fun s hs => by
              rw [Mu_ct]
              show pm_upd (pm_ct N1 137) (r + 1) _ s = _
              rw [pm_upd_ne (by omega)]
            rw [hz, show ((r + 1 : Nat) : Int) - 1 = (r : Int) by omega]
            refine go N' l2 f2 ?_ (fun s hs => (g2 s (by omega)).trans (e9 s (by omega)))
            rw [PL_congr e9] at L2
            exact L2
        · replace h1 : ¬ (¬ (r : Int) = ((tR T : Int) - 1)) := h1
          omega
      have cols : ∀ (m c : Nat) (N1 : pm_M) (V1 : List (List Nat)), c + m = tC T → Lay N1 → MF [137, 138, 139] [43] M N1 → Look N1 V1 → V1 ++ enf T v r (EN T v (k + 1)) (PL (pm_ct N 137) r) m c = V ++ EN T v ((k + 1) + 1) (PL (pm_ct N 137) r) → (∀ s, s < r → pm_ct N1 137 s = pm_ct N 137 s) → pm_ct N1 137 r = (c : Int) - 1 → Wp (d + 3) 222 36 [(2, ((116 : Nat) : Int)), (0, (v : Int)), (0, (r : Int))] [] N1 mc ms Q := by
        intro m
        induction m with
        | zero =>
          intro c N1 V1 hc lay1 hF1 hL1 hV hs hp
          have hM : MoAt N1 T := hM0.mf hF1 (by decide) (by decide) (by decide) (by decide)
          have hV : V1 ++ [] = _ := hV
          rw [List.append_nil] at hV
          rw [hV] at hL1
          refine g_iload_n lk_222_36 rfl ?_
          refine g_if (t := 109) lk_222_37 rfl (by first | (unfold pm_inI; omega) | exact pm_and_in _ _ | exact pm_shr_in _ _ | exact pm_or_in _ _ | exact pm_xor_in _ _ | exact pm_shl_in _ _ | exact pm_cmp_in _ _ | exact pm_b8_in _ | (unfold pm_inI; split <;> omega)) (fun h1 => ?_) (fun h1 => ?_)
          · replace h1 : (r : Int) < 0 := h1
            omega
          · replace h1 : ¬ ((r : Int) < 0) := h1
            refine g_aload_n lk_222_40 rfl ?_
            refine g_getfield lk_222_41 rfl (lay1.on (by decide) rfl) (v := ((137 : Nat) : Int)) (lay1.rf rfl) ?_
            refine g_iload_n lk_222_44 rfl ?_
            refine g_dup2 lk_222_45 rfl rfl ?_
            refine m_iaload (u := []) (M := N1) lk_222_46 (lay1.ay (by decide) rfl) (by omega) (j := r) (by omega) (v := ((c : Int) - 1)) hp ?_
            refine g_iconst lk_222_47 ?_
            refine g_iadd lk_222_48 ?_
            have lay2 : Lay (Mu [(137, pm_upd (pm_ct N1 137) r (((c : Int) - 1) + 1))] N1) := lay1.muA (l := []) (a := 137) (f := pm_upd (pm_ct N1 137) r (((c : Int) - 1) + 1)) rfl rfl
            refine m_iastore (u := []) (u' := [(137, pm_upd (pm_ct N1 137) r (((c : Int) - 1) + 1))]) (M := N1) lk_222_49 (lay1.ay (by decide) rfl) (by omega) (j := r) (by omega) rfl ?_
            refine g_aload_n lk_222_50 rfl ?_
            refine g_getfield lk_222_51 rfl (lay2.on (by decide) rfl) (v := ((137 : Nat) : Int)) (lay2.rf rfl) ?_
            refine g_iload_n lk_222_54 rfl ?_
            refine m_iaload (u := [(137, pm_upd (pm_ct N1 137) r (((c : Int) - 1) + 1))]) (M := N1) lk_222_55 (lay2.ay (by decide) rfl) (by omega) (j := r) (by omega) (v := (((c : Int) - 1) + 1)) (by first | rfl | exact pm_upd_eq _ _ _) ?_
            refine g_aload_n lk_222_56 rfl ?_
            refine m_getfield (u := [(137, pm_upd (pm_ct N1 137) r (((c : Int) - 1) + 1))]) (M := N1) lk_222_57 rfl (lay2.on (by decide) rfl) (v := (tC T : Int)) hM.2.1 ?_
            refine g_icmp (t := 69) lk_222_60 rfl (by first | (unfold pm_inI; omega) | exact pm_and_in _ _ | exact pm_shr_in _ _ | exact pm_or_in _ _ | exact pm_xor_in _ _ | exact pm_shl_in _ _ | exact pm_cmp_in _ _ | exact pm_b8_in _ | (unfold pm_inI; split <;> omega)) (by first | (unfold pm_inI; omega) | exact pm_and_in _ _ | exact pm_shr_in _ _ | exact pm_or_in _ _ | exact pm_xor_in _ _ | exact pm_shl_in _ _ | exact pm_cmp_in _ _ | exact pm_b8_in _ | (unfold pm_inI; split <;> omega)) (fun h3 => ?_) (fun h3 => ?_)
            · replace h3 : ¬ (((c : Int) - 1) + 1) = (tC T : Int) := h3
              omega
            · replace h3 : ¬ (¬ (((c : Int) - 1) + 1) = (tC T : Int)) := h3
              refine g_iinc (ls' := [(2, ((116 : Nat) : Int)), (0, (v : Int)), (0, ((r : Int) + (-1)))]) lk_222_63 rfl rfl rfl ?_
              refine g_goto (t := 36) lk_222_66 rfl ?_
              refine exit _ _ lay2 (hF1.trans (MF.mu _ _ rfl (fun j hj => rfl))) (hL1.of (by rw [Mu_ct]; rfl) (by rw [Mu_ct]; rfl) (by rw [Mu_ct]; rfl)) (fun s hs' => ?_) rfl
              rw [Mu_ct]
              show pm_upd (pm_ct N1 137) r _ s = _
              rw [pm_upd_ne (by omega)]; exact hs s hs'
        | succ m ihm =>
          intro c N1 V1 hc lay1 hF1 hL1 hV hs hp
          have hM : MoAt N1 T := hM0.mf hF1 (by decide) (by decide) (by decide) (by decide)
          rw [enf_s] at hV
          obtain ⟨N2, hN2⟩ : ∃ N2, N2 = Mu [(137, pm_upd (pm_ct N1 137) r (((c : Int) - 1) + 1))] N1 := ⟨_, rfl⟩
          have g2 : ∀ s, s < r → pm_ct N2 137 s = pm_ct N 137 s := fun s hs' => by
            rw [hN2, Mu_ct]
            show pm_upd (pm_ct N1 137) r _ s = _
            rw [pm_upd_ne (by omega)]; exact hs s hs'
          have g2r : pm_ct N2 137 r = (c : Int) := by
            rw [hN2, Mu_ct]
            show pm_upd (pm_ct N1 137) r _ r = _
            rw [pm_upd_eq]; omega
          have hF2 : MF [137, 138, 139] [43] M N2 := hF1.trans (by rw [hN2]; exact MF.mu _ _ rfl (fun j hj => rfl))
          have hL2 : Look N2 V1 := hL1.of (by rw [hN2, Mu_ct]; rfl) (by rw [hN2, Mu_ct]; rfl) (by rw [hN2, Mu_ct]; rfl)
          have hM2 : MoAt N2 T := hM0.mf hF2 (by decide) (by decide) (by decide) (by decide)
          have gg : ∀ s, s ≤ r → -1 ≤ pm_ct N2 137 s ∧ pm_ct N2 137 s < tC T := fun s hs' => by
            by_cases e : s = r
            · subst e; rw [g2r]; omega
            · rw [g2 s (by omega)]; exact hg s (by omega)
          have eP : PL (pm_ct N2 137) r = PL (pm_ct N 137) r := PL_congr g2
          have eP1 : PL (pm_ct N2 137) (r + 1) = PL (pm_ct N 137) r ++ [6 * r + c] := by rw [PL_s, g2r, if_neg (by omega), eP, Int.toNat_natCast]
          have k69 : Lay N2 → Wp (d + 3) 222 69 [(2, ((116 : Nat) : Int)), (0, (v : Int)), (0, (r : Int))] [] N2 mc ms Q := by
            intro lay2
            have ft := c_Mo_fits (d := d) (mc := 0) (ms := 0) lay2 hT hM2 (r := r) (v := v) (by omega) (by omega) gg
            rw [g2r, if_neg (by omega), Int.toNat_natCast, eP] at ft
            obtain ⟨b, hb⟩ : ∃ b, b = (tX T (6 * r + c) == v && okP T v (PL (pm_ct N 137) r) (6 * r + c)) := ⟨_, rfl⟩
            rw [← hb] at ft hV
            refine g_aload_n lk_222_69 rfl ?_
            refine g_iload_n lk_222_70 rfl ?_
            refine g_iload_n lk_222_71 rfl ?_
            refine g_virtual (p := 116) (Qc := _) lk_222_72 rfl (Nat.le_of_ble_eq_true rfl) rfl rfl (lay2.on (by decide) rfl) (Nat.le_of_ble_eq_true rfl) (Nat.le_of_ble_eq_true rfl) (Nat.zero_le _) (Nat.zero_le _) (ft) ?_
            rintro _ N1 ⟨rfl, hN1⟩
            rw [hN1]
            show Wp _ 222 75 [(2, ((116 : Nat) : Int)), (0, (v : Int)), (0, (r : Int))] [(0, (if b = true then (1 : Int) else 0))] N2 _ _ _
            refine g_if (t := 36) lk_222_75 rfl (by first | (unfold pm_inI; omega) | exact pm_and_in _ _ | exact pm_shr_in _ _ | exact pm_or_in _ _ | exact pm_xor_in _ _ | exact pm_shl_in _ _ | exact pm_cmp_in _ _ | exact pm_b8_in _ | (unfold pm_inI; split <;> omega)) (fun h2 => ?_) (fun h2 => ?_)
            · replace h2 : (if b = true then (1 : Int) else 0) = 0 := h2
              have b0 : b = false := by
                cases b with
                | false => rfl
                | true => rw [if_pos rfl] at h2; omega
              rw [b0] at hV
              exact ihm (c + 1) N2 V1 (by omega) lay2 hF2 hL2 hV g2 (by rw [g2r]; omega)
            · replace h2 : ¬ ((if b = true then (1 : Int) else 0) = 0) := h2
              have b1 : b = true := by
                cases b with
                | true => rfl
                | false => exact absurd rfl h2
              rw [b1, if_pos rfl, ← List.append_assoc] at hV
              refine visit N2 V1 lay2 hF2 hL2 gg (fun N' l3 f3 L3 g3 => ?_)
              rw [eP1] at L3
              exact ihm (c + 1) N' _ (by omega) l3 f3 L3 hV (fun s hs' => by rw [g3 s (by omega)]; exact g2 s hs') (by rw [g3 r (Nat.le_refl _), g2r]; omega)
          refine g_iload_n lk_222_36 rfl ?_
          refine g_if (t := 109) lk_222_37 rfl (by first | (unfold pm_inI; omega) | exact pm_and_in _ _ | exact pm_shr_in _ _ | exact pm_or_in _ _ | exact pm_xor_in _ _ | exact pm_shl_in _ _ | exact pm_cmp_in _ _ | exact pm_b8_in _ | (unfold pm_inI; split <;> omega)) (fun h1 => ?_) (fun h1 => ?_)
          · replace h1 : (r : Int) < 0 := h1
            omega
          · replace h1 : ¬ ((r : Int) < 0) := h1
            refine g_aload_n lk_222_40 rfl ?_
            refine g_getfield lk_222_41 rfl (lay1.on (by decide) rfl) (v := ((137 : Nat) : Int)) (lay1.rf rfl) ?_
            refine g_iload_n lk_222_44 rfl ?_
            refine g_dup2 lk_222_45 rfl rfl ?_
            refine m_iaload (u := []) (M := N1) lk_222_46 (lay1.ay (by decide) rfl) (by omega) (j := r) (by omega) (v := ((c : Int) - 1)) hp ?_
            refine g_iconst lk_222_47 ?_
            refine g_iadd lk_222_48 ?_
            have lay2 : Lay (Mu [(137, pm_upd (pm_ct N1 137) r (((c : Int) - 1) + 1))] N1) := lay1.muA (l := []) (a := 137) (f := pm_upd (pm_ct N1 137) r (((c : Int) - 1) + 1)) rfl rfl
            refine m_iastore (u := []) (u' := [(137, pm_upd (pm_ct N1 137) r (((c : Int) - 1) + 1))]) (M := N1) lk_222_49 (lay1.ay (by decide) rfl) (by omega) (j := r) (by omega) rfl ?_
            refine g_aload_n lk_222_50 rfl ?_
            refine g_getfield lk_222_51 rfl (lay2.on (by decide) rfl) (v := ((137 : Nat) : Int)) (lay2.rf rfl) ?_
            refine g_iload_n lk_222_54 rfl ?_
            refine m_iaload (u := [(137, pm_upd (pm_ct N1 137) r (((c : Int) - 1) + 1))]) (M := N1) lk_222_55 (lay2.ay (by decide) rfl) (by omega) (j := r) (by omega) (v := (((c : Int) - 1) + 1)) (by first | rfl | exact pm_upd_eq _ _ _) ?_
            refine g_aload_n lk_222_56 rfl ?_
            refine m_getfield (u := [(137, pm_upd (pm_ct N1 137) r (((c : Int) - 1) + 1))]) (M := N1) lk_222_57 rfl (lay2.on (by decide) rfl) (v := (tC T : Int)) hM.2.1 ?_
            refine g_icmp (t := 69) lk_222_60 rfl (by first | (unfold pm_inI; omega) | exact pm_and_in _ _ | exact pm_shr_in _ _ | exact pm_or_in _ _ | exact pm_xor_in _ _ | exact pm_shl_in _ _ | exact pm_cmp_in _ _ | exact pm_b8_in _ | (unfold pm_inI; split <;> omega)) (by first | (unfold pm_inI; omega) | exact pm_and_in _ _ | exact pm_shr_in _ _ | exact pm_or_in _ _ | exact pm_xor_in _ _ | exact pm_shl_in _ _ | exact pm_cmp_in _ _ | exact pm_b8_in _ | (unfold pm_inI; split <;> omega)) (fun h3 => ?_) (fun h3 => ?_)
            · replace h3 : ¬ (((c : Int) - 1) + 1) = (tC T : Int) := h3
              rw [hN2] at k69
              exact k69 lay2
            · replace h3 : ¬ (¬ (((c : Int) - 1) + 1) = (tC T : Int)) := h3
              refine g_iinc (ls' := [(2, ((116 : Nat) : Int)), (0, (v : Int)), (0, ((r : Int) + (-1)))]) lk_222_63 rfl rfl rfl ?_
              refine g_goto (t := 36) lk_222_66 rfl ?_
              omega
      -- none of this row first
      obtain ⟨N2, hN2⟩ : ∃ N2, N2 = Mu [(137, pm_upd (pm_ct N 137) r (-2 + 1))] N := ⟨_, rfl⟩
      have hM : MoAt N T := hM0.mf hF (by decide) (by decide) (by decide) (by decide)
      have g2 : ∀ s, s < r → pm_ct N2 137 s = pm_ct N 137 s := fun s hs' => by
        rw [hN2, Mu_ct]
        show pm_upd (pm_ct N 137) r _ s = _
        rw [pm_upd_ne (by omega)]
      have g2r : pm_ct N2 137 r = -1 := by
        rw [hN2, Mu_ct]
        show pm_upd (pm_ct N 137) r _ r = _
        rw [pm_upd_eq]; omega
      have hF2 : MF [137, 138, 139] [43] M N2 := hF.trans (by rw [hN2]; exact MF.mu _ _ rfl (fun j hj => rfl))
      have hL2 : Look N2 V := hL.of (by rw [hN2, Mu_ct]; rfl) (by rw [hN2, Mu_ct]; rfl) (by rw [hN2, Mu_ct]; rfl)
      have hM2 : MoAt N2 T := hM0.mf hF2 (by decide) (by decide) (by decide) (by decide)
      have gg : ∀ s, s ≤ r → -1 ≤ pm_ct N2 137 s ∧ pm_ct N2 137 s < tC T := fun s hs' => by
        by_cases e : s = r
        · subst e; rw [g2r]; omega
        · rw [g2 s (by omega)]; exact hg s (by omega)
      have eP1 : PL (pm_ct N2 137) (r + 1) = PL (pm_ct N 137) r := by rw [PL_s, g2r, if_pos rfl, PL_congr g2]
      have k69 : Lay N2 → Wp (d + 3) 222 69 [(2, ((116 : Nat) : Int)), (0, (v : Int)), (0, (r : Int))] [] N2 mc ms Q := by
        intro lay2
        have ft := c_Mo_fits (d := d) (mc := 0) (ms := 0) lay2 hT hM2 (r := r) (v := v) (by omega) (by omega) gg
        rw [if_pos g2r] at ft
        refine g_aload_n lk_222_69 rfl ?_
        refine g_iload_n lk_222_70 rfl ?_
        refine g_iload_n lk_222_71 rfl ?_
        refine g_virtual (p := 116) (Qc := _) lk_222_72 rfl (Nat.le_of_ble_eq_true rfl) rfl rfl (lay2.on (by decide) rfl) (Nat.le_of_ble_eq_true rfl) (Nat.le_of_ble_eq_true rfl) (Nat.zero_le _) (Nat.zero_le _) (ft) ?_
        rintro _ N1 ⟨rfl, hN1⟩
        rw [hN1]
        show Wp _ 222 75 [(2, ((116 : Nat) : Int)), (0, (v : Int)), (0, (r : Int))] [(0, 1)] N2 _ _ _
        refine g_if (t := 36) lk_222_75 rfl (by first | (unfold pm_inI; omega) | exact pm_and_in _ _ | exact pm_shr_in _ _ | exact pm_or_in _ _ | exact pm_xor_in _ _ | exact pm_shl_in _ _ | exact pm_cmp_in _ _ | exact pm_b8_in _ | (unfold pm_inI; split <;> omega)) (fun h => absurd h (show ¬ ((1 : Int) = (0 : Int)) by omega)) (fun _ => ?_)
        refine visit N2 V lay2 hF2 hL2 gg (fun N' l3 f3 L3 g3 => ?_)
        rw [eP1] at L3
        refine cols (tC T) 0 N' _ (by omega) l3 f3 L3 ?_ (fun s hs' => by rw [g3 s (by omega)]; exact g2 s hs') (by rw [g3 r (Nat.le_refl _), g2r]; omega)
        rw [EN_s T v (k + 1), enf_eq, List.append_assoc, show tR T - ((k + 1) + 1) = r by omega]
      refine g_iload_n lk_222_36 rfl ?_
      refine g_if (t := 109) lk_222_37 rfl (by first | (unfold pm_inI; omega) | exact pm_and_in _ _ | exact pm_shr_in _ _ | exact pm_or_in _ _ | exact pm_xor_in _ _ | exact pm_shl_in _ _ | exact pm_cmp_in _ _ | exact pm_b8_in _ | (unfold pm_inI; split <;> omega)) (fun h1 => ?_) (fun h1 => ?_)
      · replace h1 : (r : Int) < 0 := h1
        omega
      · replace h1 : ¬ ((r : Int) < 0) := h1
        refine g_aload_n lk_222_40 rfl ?_
        refine g_getfield lk_222_41 rfl (lay.on (by decide) rfl) (v := ((137 : Nat) : Int)) (lay.rf rfl) ?_
        refine g_iload_n lk_222_44 rfl ?_
        refine g_dup2 lk_222_45 rfl rfl ?_
        refine m_iaload (u := []) (M := N) lk_222_46 (lay.ay (by decide) rfl) (by omega) (j := r) (by omega) (v := (-2)) h2 ?_
        refine g_iconst lk_222_47 ?_
        refine g_iadd lk_222_48 ?_
        have lay2 : Lay (Mu [(137, pm_upd (pm_ct N 137) r ((-2) + 1))] N) := lay.muA (l := []) (a := 137) (f := pm_upd (pm_ct N 137) r ((-2) + 1)) rfl rfl
        refine m_iastore (u := []) (u' := [(137, pm_upd (pm_ct N 137) r ((-2) + 1))]) (M := N) lk_222_49 (lay.ay (by decide) rfl) (by omega) (j := r) (by omega) rfl ?_
        refine g_aload_n lk_222_50 rfl ?_
        refine g_getfield lk_222_51 rfl (lay2.on (by decide) rfl) (v := ((137 : Nat) : Int)) (lay2.rf rfl) ?_
        refine g_iload_n lk_222_54 rfl ?_
        refine m_iaload (u := [(137, pm_upd (pm_ct N 137) r ((-2) + 1))]) (M := N) lk_222_55 (lay2.ay (by decide) rfl) (by omega) (j := r) (by omega) (v := ((-2) + 1)) (by first | rfl | exact pm_upd_eq _ _ _) ?_
        refine g_aload_n lk_222_56 rfl ?_
        refine m_getfield (u := [(137, pm_upd (pm_ct N 137) r ((-2) + 1))]) (M := N) lk_222_57 rfl (lay2.on (by decide) rfl) (v := (tC T : Int)) hM.2.1 ?_
        refine g_icmp (t := 69) lk_222_60 rfl (by first | (unfold pm_inI; omega) | exact pm_and_in _ _ | exact pm_shr_in _ _ | exact pm_or_in _ _ | exact pm_xor_in _ _ | exact pm_shl_in _ _ | exact pm_cmp_in _ _ | exact pm_b8_in _ | (unfold pm_inI; split <;> omega)) (by first | (unfold pm_inI; omega) | exact pm_and_in _ _ | exact pm_shr_in _ _ | exact pm_or_in _ _ | exact pm_xor_in _ _ | exact pm_shl_in _ _ | exact pm_cmp_in _ _ | exact pm_b8_in _ | (unfold pm_inI; split <;> omega)) (fun h3 => ?_) (fun h3 => ?_)
        · replace h3 : ¬ ((-2) + 1) = (tC T : Int) := h3
          rw [hN2] at k69
          exact k69 lay2
        · replace h3 : ¬ (¬ ((-2) + 1) = (tC T : Int)) := h3
          refine g_iinc (ls' := [(2, ((116 : Nat) : Int)), (0, (v : Int)), (0, ((r : Int) + (-1)))]) lk_222_63 rfl rfl rfl ?_
          refine g_goto (t := 36) lk_222_66 rfl ?_
          omega
  have ini : ∀ (n i : Nat) (N : pm_M), i + n = 7 → Lay N → MF [137, 138, 139] [43] M N → pm_ct N 116 43 = 0 → (∀ j, j < i → pm_ct N 139 j = 0) → Wp (d + 3) 222 7 [(2, ((116 : Nat) : Int)), (0, (v : Int)), (0, (i : Int))] [] N mc ms Q := by
    intro n
    induction n with
    | zero =>
      intro i N hi lay hF h43 hj
      refine g_iload_n lk_222_7 rfl ?_
      refine g_bipush lk_222_8 ?_
      refine g_icmp (t := 26) lk_222_10 rfl (by first | (unfold pm_inI; omega) | exact pm_and_in _ _ | exact pm_shr_in _ _ | exact pm_or_in _ _ | exact pm_xor_in _ _ | exact pm_shl_in _ _ | exact pm_cmp_in _ _ | exact pm_b8_in _ | (unfold pm_inI; split <;> omega)) (by first | (unfold pm_inI; omega) | exact pm_and_in _ _ | exact pm_shr_in _ _ | exact pm_or_in _ _ | exact pm_xor_in _ _ | exact pm_shl_in _ _ | exact pm_cmp_in _ _ | exact pm_b8_in _ | (unfold pm_inI; split <;> omega)) (fun h1 => ?_) (fun h1 => ?_)
      · replace h1 : 7 ≤ (i : Int) := h1
        refine g_iconst lk_222_26 ?_
        refine g_istore_n (ls' := [(2, ((116 : Nat) : Int)), (0, (v : Int)), (0, 0)]) lk_222_27 rfl rfl ?_
        refine g_aload_n lk_222_28 rfl ?_
        refine g_getfield lk_222_29 rfl (lay.on (by decide) rfl) (v := ((137 : Nat) : Int)) (lay.rf rfl) ?_
        refine g_iconst lk_222_32 ?_
        refine g_bipush lk_222_33 ?_
        have lay2 : Lay (Mu [(137, pm_upd (pm_ct N 137) 0 (-2))] N) := lay.muA (l := []) (a := 137) (f := pm_upd (pm_ct N 137) 0 (-2)) rfl rfl
        refine m_iastore (u := []) (u' := [(137, pm_upd (pm_ct N 137) 0 (-2))]) (M := N) lk_222_35 (lay.ay (by decide) rfl) (by omega) (j := 0) (by omega) rfl ?_
        refine main (tR T - 1) 0 _ [] (by omega) lay2 (hF.trans (MF.mu _ _ rfl (fun j hj => rfl))) (Look_0 (by rw [Mu_ct]; exact h43) (fun n hn => by rw [Mu_ct]; exact hj n (by omega))) (fun s hs => absurd hs (Nat.not_lt_zero s)) (by rw [Mu_ct]; rfl) (fun N' z l2 f2 L2 _ hz => ?_)
        rw [hz]
        rw [show tR T - 1 + 1 = tR T by omega] at L2
        refine g_iload_n lk_222_36 rfl ?_
        refine g_if (t := 109) lk_222_37 rfl (by unfold pm_inI; omega) (fun _ => ?_) (fun q => absurd (show ((0 : Nat) : Int) - 1 < 0 by omega) q)
        refine g_return lk_222_109 ?_
        rw [hQ]
        exact ⟨rfl, l2, f2, L2⟩
      · replace h1 : ¬ (7 ≤ (i : Int)) := h1
        omega
    | succ n ih =>
      intro i N hi lay hF h43 hj
      refine g_iload_n lk_222_7 rfl ?_
      refine g_bipush lk_222_8 ?_
      refine g_icmp (t := 26) lk_222_10 rfl (by first | (unfold pm_inI; omega) | exact pm_and_in _ _ | exact pm_shr_in _ _ | exact pm_or_in _ _ | exact pm_xor_in _ _ | exact pm_shl_in _ _ | exact pm_cmp_in _ _ | exact pm_b8_in _ | (unfold pm_inI; split <;> omega)) (by first | (unfold pm_inI; omega) | exact pm_and_in _ _ | exact pm_shr_in _ _ | exact pm_or_in _ _ | exact pm_xor_in _ _ | exact pm_shl_in _ _ | exact pm_cmp_in _ _ | exact pm_b8_in _ | (unfold pm_inI; split <;> omega)) (fun h1 => ?_) (fun h1 => ?_)
      · replace h1 : 7 ≤ (i : Int) := h1
        omega
      · replace h1 : ¬ (7 ≤ (i : Int)) := h1
        refine g_aload_n lk_222_13 rfl ?_
        refine g_getfield lk_222_14 rfl (lay.on (by decide) rfl) (v := ((139 : Nat) : Int)) (lay.rf rfl) ?_
        refine g_iload_n lk_222_17 rfl ?_
        refine g_iconst lk_222_18 ?_
        have lay2 : Lay (Mu [(139, pm_upd (pm_ct N 139) i 0)] N) := lay.muA (l := []) (a := 139) (f := pm_upd (pm_ct N 139) i 0) rfl rfl
        refine m_iastore (u := []) (u' := [(139, pm_upd (pm_ct N 139) i 0)]) (M := N) lk_222_19 (lay.ay (by decide) rfl) (by omega) (j := i) (by omega) rfl ?_
        refine g_iinc (ls' := [(2, ((116 : Nat) : Int)), (0, (v : Int)), (0, ((i : Int) + 1))]) lk_222_20 rfl rfl rfl ?_
        refine g_goto (t := 7) lk_222_23 rfl ?_
        refine ih (i + 1) _ (by omega) lay2 (hF.trans (MF.mu _ _ rfl (fun j hj => rfl))) (by rw [Mu_ct]; exact h43) (fun j hj' => ?_)
        rw [Mu_ct]
        show pm_upd (pm_ct N 139) i 0 j = 0
        by_cases e : j = i
        · subst e; rw [pm_upd_eq]
        · rw [pm_upd_ne e]; exact hj j (by omega)
  show Wp (d + 3) 222 0 [(2, ((116 : Nat) : Int)), (0, (v : Int)), (9, 0)] [] M mc ms Q
  refine g_aload_n lk_222_0 rfl ?_
  refine g_iconst lk_222_1 ?_
  have lay1 : Lay (Mu [(116, pm_upd (pm_ct M 116) 43 0)] M) := lay0.muF (l := []) (a := 116) (k := 43) (z := 0) rfl rfl
  refine m_putfield (u := []) (u' := [(116, pm_upd (pm_ct M 116) 43 0)]) (M := M) lk_222_2 rfl (lay0.on (by decide) rfl) (fun h => absurd h (by decide)) rfl ?_
  refine g_iconst lk_222_5 ?_
  refine g_istore_n (ls' := [(2, ((116 : Nat) : Int)), (0, (v : Int)), (0, 0)]) lk_222_6 rfl rfl ?_
  refine ini 7 0 _ rfl lay1 (MF.mu _ _ rfl (fun j hj => upd_ne (by simpa using hj))) (by rw [Mu_ct]; rfl) (fun j hj => absurd hj (Nat.not_lt_zero j))
set_option maxHeartbeats 4000000 in
theorem c_Mo_fooling {d mc ms : Nat} {M : pm_M} (lay0 : Lay M) {T : Tab} (hT : TabOK T) (hM0 : MoAt M T) {v k : Int} (hv : pm_inI v) (hk : pm_inI k) :
    pm_E (d + 4) 223 [(2, ((116 : Nat) : Int)), (0, v), (0, k)] M mc ms (fun ρ M' => ρ = some (0, sFooling T v k) ∧ Lay M' ∧ MF [137, 138, 139] [0, 43] M M') := by
  obtain ⟨Q, hQ⟩ : ∃ Q : pm_Q, Q = (fun ρ M' => ρ = some (0, sFooling T v k) ∧ Lay M' ∧ MF [137, 138, 139] [0, 43] M M') := ⟨_, rfl⟩
  rw [← hQ]
  have iv := isV_range v
  have fin : ∀ (z : Int) (N : pm_M), z = sFooling T v k → Lay N → MF [137, 138, 139] [0, 43] M N → Q (some (0, z)) N := fun z N hz a1 a2 => by rw [hQ, hz]; exact ⟨rfl, a1, a2⟩
  have k19 : ¬ isV v = 0 → ∀ N : pm_M, Lay N → MF [137, 138, 139] [0, 43] M N → Look N (EN T v.toNat (tR T) []) → Wp (d + 4) 223 19 [(2, ((116 : Nat) : Int)), (0, v), (0, k)] [] N mc ms Q := by
    intro h1v N lay hF hL
    obtain ⟨⟨X, hX, X6, X36, x43, xn⟩, -⟩ := hL
    have eX := EN_best hT hX
    obtain ⟨n, hn⟩ : ∃ n, n = X.length := ⟨_, rfl⟩
    rw [← hn] at x43 X6
    refine g_iload_n lk_223_19 rfl ?_
    refine g_iconst lk_223_20 ?_
    refine g_icmp (t := 31) lk_223_21 rfl (by first | assumption | (unfold pm_inI; omega) | (unfold pm_inI; split <;> omega)) (by first | assumption | (unfold pm_inI; omega) | (unfold pm_inI; split <;> omega)) (fun h1 => ?_) (fun h1 => ?_)
    · replace h1 : ¬ k = (-1) := h1
      refine g_iload_n lk_223_31 rfl ?_
      refine g_iconst lk_223_32 ?_
      refine g_aload_n lk_223_33 rfl ?_
      refine m_getfield (u := []) (M := N) lk_223_34 rfl (lay.on (by decide) rfl) (v := (n : Int)) x43 ?_
      refine g_iconst lk_223_37 ?_
      refine g_isub lk_223_38 ?_
      refine g_static (Qc := _) lk_223_39 (by decide) rfl (Nat.le_of_ble_eq_true rfl) rfl rfl (Nat.le_of_ble_eq_true rfl) (Nat.le_of_ble_eq_true rfl) (Nat.zero_le _) (Nat.zero_le _) (c_Mo_in (by assumption) (by unfold pm_inI; omega) (by unfold pm_inI; omega)) ?_
      rintro _ N2 ⟨rfl, hN2⟩
      rw [hN2]
      show Wp _ 223 42 [(2, ((116 : Nat) : Int)), (0, v), (0, k)] [(0, (if 0 ≤ k ∧ k ≤ ((n : Int) - 1) then (1 : Int) else 0))] N _ _ _
      refine g_if (t := 54) lk_223_42 rfl (by first | assumption | (unfold pm_inI; omega) | (unfold pm_inI; split <;> omega)) (fun h3 => ?_) (fun h3 => ?_)
      · replace h3 : (if 0 ≤ k ∧ k ≤ ((n : Int) - 1) then (1 : Int) else 0) = 0 := h3
        refine g_iconst lk_223_54 ?_
        refine g_ireturn lk_223_55 (fun h => absurd h (by decide)) ?_
        refine fin _ _ ?_ lay hF
        unfold sFooling
        rw [if_neg h1v, if_neg (by omega), if_pos (by rw [← eX, ← hn]; split at h3 <;> omega)]
      · replace h3 : ¬ ((if 0 ≤ k ∧ k ≤ ((n : Int) - 1) then (1 : Int) else 0) = 0) := h3
        have kk : 0 ≤ k ∧ k ≤ (n : Int) - 1 := by
          refine Classical.byContradiction (fun q => ?_)
          rw [if_neg q] at h3
          exact h3 rfl
        obtain ⟨j, rfl⟩ := Int.eq_ofNat_of_zero_le kk.1
        have hj : X[j]? = some X[j] := List.getElem?_eq_getElem (by omega)
        have vj := xn j _ hj
        refine g_aload_n lk_223_45 rfl ?_
        refine g_getfield lk_223_46 rfl (lay.on (by decide) rfl) (v := ((138 : Nat) : Int)) (lay.rf rfl) ?_
        refine g_iload_n lk_223_49 rfl ?_
        refine g_iaload lk_223_50 (lay.ay (by decide) rfl) (by omega) (v := (nm X[j] : Int)) vj ?_
        refine g_goto (t := 55) lk_223_51 rfl ?_
        refine g_ireturn lk_223_55 (fun h => absurd h (by decide)) (fin _ _ ?_ lay hF)
        unfold sFooling
        rw [if_neg h1v, if_neg (by omega), if_neg (by rw [← eX, ← hn]; omega), ← eX, Int.toNat_natCast, List.getD_eq_getElem?_getD, hj]; rfl
    · replace h1 : ¬ (¬ k = (-1)) := h1
      refine g_aload_n lk_223_24 rfl ?_
      refine m_getfield (u := []) (M := N) lk_223_25 rfl (lay.on (by decide) rfl) (v := (n : Int)) x43 ?_
      refine g_goto (t := 55) lk_223_28 rfl ?_
      refine g_ireturn lk_223_55 (fun h => absurd h (by decide)) ?_
      refine fin _ _ ?_ lay hF
      unfold sFooling
      rw [if_neg h1v, if_pos (by omega), ← eX, ← hn]
  show Wp (d + 4) 223 0 [(2, ((116 : Nat) : Int)), (0, v), (0, k)] [] M mc ms Q
  refine g_aload_n lk_223_0 rfl ?_
  refine g_iconst lk_223_1 ?_
  have lay1 : Lay (Mu [(116, pm_upd (pm_ct M 116) 0 0)] M) := lay0.muF (l := []) (a := 116) (k := 0) (z := 0) rfl rfl
  refine m_putfield (u := []) (u' := [(116, pm_upd (pm_ct M 116) 0 0)]) (M := M) lk_223_2 rfl (lay0.on (by decide) rfl) (fun h => absurd h (by decide)) rfl ?_
  refine g_iload_n lk_223_5 rfl ?_
  refine g_static (Qc := _) lk_223_6 (by decide) rfl (Nat.le_of_ble_eq_true rfl) rfl rfl (Nat.le_of_ble_eq_true rfl) (Nat.le_of_ble_eq_true rfl) (Nat.zero_le _) (Nat.zero_le _) (c_Mo_isValue (by assumption)) ?_
  rintro _ N2 ⟨rfl, hN2⟩
  rw [hN2]
  show Wp _ 223 9 [(2, ((116 : Nat) : Int)), (0, v), (0, k)] [(0, (isV v))] (Mu [(116, pm_upd (pm_ct M 116) 0 0)] M) _ _ _
  refine g_if (t := 14) lk_223_9 rfl (by (unfold pm_inI; omega)) (fun h3 => ?_) (fun h3 => ?_)
  · replace h3 : ¬ (isV v) = 0 := h3
    refine g_aload_n lk_223_14 rfl ?_
    refine g_iload_n lk_223_15 rfl ?_
    obtain ⟨v1, v2⟩ := isV_1 h3
    obtain ⟨u, rfl⟩ := Int.eq_ofNat_of_zero_le v1
    refine g_virtual (p := 116) (Qc := _) lk_223_16 rfl (Nat.le_of_ble_eq_true rfl) rfl rfl (lay1.on (by decide) rfl) (Nat.le_of_ble_eq_true rfl) (Nat.le_of_ble_eq_true rfl) (Nat.zero_le _) (Nat.zero_le _) (c_Mo_layFooling (d := d) lay1 hT hM0 (v := u) (by omega)) ?_
    rintro _ N' ⟨rfl, lay', hF', hL⟩
    exact k19 h3 N' lay' ((MF.th (by decide) M).trans (hF'.mono (fun a q => q) (fun a q => by simp at q; simp [q]))) hL
  · replace h3 : ¬ (¬ (isV v) = 0) := h3
    refine g_iconst lk_223_12 ?_
    refine g_ireturn lk_223_13 (fun h => absurd h (by decide)) ?_
    refine fin _ _ ?_ lay1 (MF.th (by decide) M)
    unfold sFooling
    rw [if_pos (by omega)]
set_option maxHeartbeats 4000000 in
theorem c_Mo_fools {d mc ms : Nat} {M : pm_M} (lay0 : Lay M) {T : Tab} (hT : TabOK T) (hM0 : MoAt M T) {v k : Int} (hv : pm_inI v) (hk : pm_inI k) :
    pm_E (d + 4) 224 [(2, ((116 : Nat) : Int)), (0, v), (0, k)] M mc ms (fun ρ M' => ρ = some (0, sFools T v k) ∧ Lay M' ∧ MF [137, 138, 139] [0, 43] M M') := by
  obtain ⟨Q, hQ⟩ : ∃ Q : pm_Q, Q = (fun ρ M' => ρ = some (0, sFools T v k) ∧ Lay M' ∧ MF [137, 138, 139] [0, 43] M M') := ⟨_, rfl⟩
  rw [← hQ]
  have iv := isV_range v
  have fin : ∀ (z : Int) (N : pm_M), z = sFools T v k → Lay N → MF [137, 138, 139] [0, 43] M N → Q (some (0, z)) N := fun z N hz a1 a2 => by rw [hQ, hz]; exact ⟨rfl, a1, a2⟩
  show Wp (d + 4) 224 0 [(2, ((116 : Nat) : Int)), (0, v), (0, k)] [] M mc ms Q
  refine g_aload_n lk_224_0 rfl ?_
  refine g_iconst lk_224_1 ?_
  have lay1 : Lay (Mu [(116, pm_upd (pm_ct M 116) 0 0)] M) := lay0.muF (l := []) (a := 116) (k := 0) (z := 0) rfl rfl
  refine m_putfield (u := []) (u' := [(116, pm_upd (pm_ct M 116) 0 0)]) (M := M) lk_224_2 rfl (lay0.on (by decide) rfl) (fun h => absurd h (by decide)) rfl ?_
  refine g_iload_n lk_224_5 rfl ?_
  refine g_static (Qc := _) lk_224_6 (by decide) rfl (Nat.le_of_ble_eq_true rfl) rfl rfl (Nat.le_of_ble_eq_true rfl) (Nat.le_of_ble_eq_true rfl) (Nat.zero_le _) (Nat.zero_le _) (c_Mo_isValue (by assumption)) ?_
  rintro _ N2 ⟨rfl, hN2⟩
  rw [hN2]
  show Wp _ 224 9 [(2, ((116 : Nat) : Int)), (0, v), (0, k)] [(0, (isV v))] (Mu [(116, pm_upd (pm_ct M 116) 0 0)] M) _ _ _
  refine g_if (t := 22) lk_224_9 rfl (by first | (unfold pm_inI; omega) | (unfold pm_inI; split <;> omega)) (fun h3 => ?_) (fun h3 => ?_)
  · replace h3 : (isV v) = 0 := h3
    refine g_iconst lk_224_22 ?_
    refine g_ireturn lk_224_23 (fun h => absurd h (by decide)) ?_
    refine fin _ _ ?_ lay1 (MF.th (by decide) M)
    unfold sFools
    rw [if_pos (by omega)]
  · replace h3 : ¬ ((isV v) = 0) := h3
    refine g_iload_n lk_224_12 rfl ?_
    refine g_iconst lk_224_13 ?_
    refine g_bipush lk_224_14 ?_
    refine g_static (Qc := _) lk_224_16 (by decide) rfl (Nat.le_of_ble_eq_true rfl) rfl rfl (Nat.le_of_ble_eq_true rfl) (Nat.le_of_ble_eq_true rfl) (Nat.zero_le _) (Nat.zero_le _) (c_Mo_in (by assumption) (by unfold pm_inI; omega) (by unfold pm_inI; omega)) ?_
    rintro _ N4 ⟨rfl, hN4⟩
    rw [hN4]
    show Wp _ 224 19 [(2, ((116 : Nat) : Int)), (0, v), (0, k)] [(0, (if 0 ≤ k ∧ k ≤ 6 then (1 : Int) else 0))] (Mu [(116, pm_upd (pm_ct M 116) 0 0)] M) _ _ _
    refine g_if (t := 24) lk_224_19 rfl (by first | (unfold pm_inI; omega) | (unfold pm_inI; split <;> omega)) (fun h5 => ?_) (fun h5 => ?_)
    · replace h5 : ¬ (if 0 ≤ k ∧ k ≤ 6 then (1 : Int) else 0) = 0 := h5
      refine g_aload_n lk_224_24 rfl ?_
      refine g_iload_n lk_224_25 rfl ?_
      have h1v : ¬ isV v = 0 := h3
      obtain ⟨v1, v2⟩ := isV_1 h1v
      have kk : 0 ≤ k ∧ k ≤ 6 := by
        refine Classical.byContradiction (fun q => ?_)
        rw [if_neg q] at h5
        exact h5 rfl
      obtain ⟨u, rfl⟩ := Int.eq_ofNat_of_zero_le v1
      obtain ⟨j, rfl⟩ := Int.eq_ofNat_of_zero_le kk.1
      refine g_virtual (p := 116) (Qc := _) lk_224_26 rfl (Nat.le_of_ble_eq_true rfl) rfl rfl (lay1.on (by decide) rfl) (Nat.le_of_ble_eq_true rfl) (Nat.le_of_ble_eq_true rfl) (Nat.zero_le _) (Nat.zero_le _) (c_Mo_layFooling (d := d) lay1 hT hM0 (v := u) (by omega)) ?_
      rintro _ N' ⟨rfl, lay', hF', hL⟩
      refine g_aload_n lk_224_29 rfl ?_
      refine g_getfield lk_224_30 rfl (lay'.on (by decide) rfl) (v := ((139 : Nat) : Int)) (lay'.rf rfl) ?_
      refine g_iload_n lk_224_33 rfl ?_
      refine g_iaload lk_224_34 (lay'.ay (by decide) rfl) (by omega) (v := (cnt (EN T u (tR T) []) j : Int)) (hL.2 j (by omega)) ?_
      refine g_ireturn lk_224_35 (fun h => absurd h (by decide)) (fin _ _ ?_ lay' ((MF.th (by decide) M).trans (hF'.mono (fun a q => q) (fun a q => by simp at q; simp [q]))))
      unfold sFools
      rw [if_neg (by omega), EN_all hT, Int.toNat_natCast, Int.toNat_natCast]
    · replace h5 : ¬ (¬ (if 0 ≤ k ∧ k ≤ 6 then (1 : Int) else 0) = 0) := h5
      refine g_iconst lk_224_22 ?_
      refine g_ireturn lk_224_23 (fun h => absurd h (by decide)) ?_
      refine fin _ _ ?_ lay1 (MF.th (by decide) M)
      unfold sFools
      rw [if_pos (by split at h5 <;> omega)]
