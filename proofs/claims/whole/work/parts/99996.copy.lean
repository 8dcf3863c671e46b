/-! ===== the class takes what was read ===== -/
theorem c_Table_copyFrom {d mc ms : Nat} {M : pm_M} (lay : Lay M) {T : Tab} (hB : TbAt M 4 T) (hT : TabOK T) :
    pm_E d 83 [(2, ((24 : Nat) : Int)), (2, ((4 : Nat) : Int))] M mc ms (fun ρ M' => ρ = none ∧ Lay M' ∧ Fr [24, 25] M M' ∧ TbAt M' 24 T) := by
  obtain ⟨Q, hQ⟩ : ∃ Q : pm_Q, Q = (fun ρ M' => ρ = none ∧ Lay M' ∧ Fr [24, 25] M M' ∧ TbAt M' 24 T) := ⟨_, rfl⟩
  rw [← hQ]
  obtain ⟨b1, b2, b3, b4, b5⟩ := hB
  obtain ⟨g1, g2, g3, g4, g5⟩ := hT
  show Wp d 83 0 [(2, ((24 : Nat) : Int)), (2, ((4 : Nat) : Int)), (9, 0)] [] M mc ms Q
  have loop : ∀ (k i : Nat) (K : pm_M), i + k = 36 → Lay K → Fr [24, 25] M K → (∀ j, j < i → pm_ct K 25 j = (tX T j : Int)) → Wp d 83 2 [(2, ((24 : Nat) : Int)), (2, ((4 : Nat) : Int)), (0, (i : Int))] [] K mc ms Q := by
    intro k
    induction k with
    | zero =>
      intro i K hi layK fK hK
      have c1 : pm_ct K 4 1 = (tR T : Int) := by rw [fK.ct (by decide)]; exact b1
      have c2 : pm_ct K 4 2 = (tC T : Int) := by rw [fK.ct (by decide)]; exact b2
      have c3 : pm_ct K 4 3 = (tA T : Int) := by rw [fK.ct (by decide)]; exact b3
      have c4 : pm_ct K 4 4 = (tB T : Int) := by rw [fK.ct (by decide)]; exact b4
      refine g_iload_n lk_83_2 rfl ?_
      refine g_aload_n lk_83_3 rfl ?_
      refine g_getfield lk_83_4 rfl (layK.on (by decide) rfl) (v := ((25 : Nat) : Int)) (layK.rf rfl) ?_
      refine g_arraylength (n := 36) lk_83_7 (by decide) (layK.ay (by decide) rfl) ?_
      refine g_icmp (t := 29) lk_83_8 rfl (by first | (unfold pm_inI; omega) | exact pm_and_in _ _ | exact pm_shr_in _ _ | exact pm_or_in _ _ | exact pm_xor_in _ _ | exact pm_shl_in _ _ | exact pm_cmp_in _ _ | exact pm_b8_in _ | (unfold pm_inI; split <;> omega)) (by first | (unfold pm_inI; omega) | exact pm_and_in _ _ | exact pm_shr_in _ _ | exact pm_or_in _ _ | exact pm_xor_in _ _ | exact pm_shl_in _ _ | exact pm_cmp_in _ _ | exact pm_b8_in _ | (unfold pm_inI; split <;> omega)) (fun h1 => ?_) (fun h1 => ?_)
      · replace h1 : 36 ≤ (i : Int) := h1
        refine g_aload_n lk_83_29 rfl ?_
        refine g_aload_n lk_83_30 rfl ?_
        refine m_getfield (u := []) (M := K) lk_83_31 rfl (layK.on (by decide) rfl) (v := (tR T : Int)) c1 ?_
        have lay2 : Lay (Mu [(24, pm_upd (pm_ct K 24) 1 (tR T : Int))] K) := layK.muF (l := []) (a := 24) (k := 1) (z := (tR T : Int)) rfl rfl
        refine m_putfield (u := []) (u' := [(24, pm_upd (pm_ct K 24) 1 (tR T : Int))]) (M := K) lk_83_34 rfl (layK.on (by decide) rfl) (fun h => absurd h (by decide)) rfl ?_
        refine g_aload_n lk_83_37 rfl ?_
        refine g_aload_n lk_83_38 rfl ?_
        refine m_getfield (u := [(24, pm_upd (pm_ct K 24) 1 (tR T : Int))]) (M := K) lk_83_39 rfl (lay2.on (by decide) rfl) (v := (tC T : Int)) c2 ?_
        have lay3 : Lay (Mu [(24, pm_upd (pm_upd (pm_ct K 24) 1 (tR T : Int)) 2 (tC T : Int))] K) := lay2.muF (l := [(24, pm_upd (pm_ct K 24) 1 (tR T : Int))]) (a := 24) (k := 2) (z := (tC T : Int)) rfl rfl
        refine m_putfield (u := [(24, pm_upd (pm_ct K 24) 1 (tR T : Int))]) (u' := [(24, pm_upd (pm_upd (pm_ct K 24) 1 (tR T : Int)) 2 (tC T : Int))]) (M := K) lk_83_42 rfl (lay2.on (by decide) rfl) (fun h => absurd h (by decide)) rfl ?_
        refine g_aload_n lk_83_45 rfl ?_
        refine g_aload_n lk_83_46 rfl ?_
        refine m_getfield (u := [(24, pm_upd (pm_upd (pm_ct K 24) 1 (tR T : Int)) 2 (tC T : Int))]) (M := K) lk_83_47 rfl (lay3.on (by decide) rfl) (v := (tA T : Int)) c3 ?_
        have lay4 : Lay (Mu [(24, pm_upd (pm_upd (pm_upd (pm_ct K 24) 1 (tR T : Int)) 2 (tC T : Int)) 3 (tA T : Int))] K) := lay3.muF (l := [(24, pm_upd (pm_upd (pm_ct K 24) 1 (tR T : Int)) 2 (tC T : Int))]) (a := 24) (k := 3) (z := (tA T : Int)) rfl rfl
        refine m_putfield (u := [(24, pm_upd (pm_upd (pm_ct K 24) 1 (tR T : Int)) 2 (tC T : Int))]) (u' := [(24, pm_upd (pm_upd (pm_upd (pm_ct K 24) 1 (tR T : Int)) 2 (tC T : Int)) 3 (tA T : Int))]) (M := K) lk_83_50 rfl (lay3.on (by decide) rfl) (fun h => absurd h (by decide)) rfl ?_
        refine g_aload_n lk_83_53 rfl ?_
        refine g_aload_n lk_83_54 rfl ?_
        refine m_getfield (u := [(24, pm_upd (pm_upd (pm_upd (pm_ct K 24) 1 (tR T : Int)) 2 (tC T : Int)) 3 (tA T : Int))]) (M := K) lk_83_55 rfl (lay4.on (by decide) rfl) (v := (tB T : Int)) c4 ?_
        have lay5 : Lay (Mu [(24, pm_upd (pm_upd (pm_upd (pm_upd (pm_ct K 24) 1 (tR T : Int)) 2 (tC T : Int)) 3 (tA T : Int)) 4 (tB T : Int))] K) := lay4.muF (l := [(24, pm_upd (pm_upd (pm_upd (pm_ct K 24) 1 (tR T : Int)) 2 (tC T : Int)) 3 (tA T : Int))]) (a := 24) (k := 4) (z := (tB T : Int)) rfl rfl
        refine m_putfield (u := [(24, pm_upd (pm_upd (pm_upd (pm_ct K 24) 1 (tR T : Int)) 2 (tC T : Int)) 3 (tA T : Int))]) (u' := [(24, pm_upd (pm_upd (pm_upd (pm_upd (pm_ct K 24) 1 (tR T : Int)) 2 (tC T : Int)) 3 (tA T : Int)) 4 (tB T : Int))]) (M := K) lk_83_58 rfl (lay4.on (by decide) rfl) (fun h => absurd h (by decide)) rfl ?_
        refine g_return lk_83_61 ?_
        rw [hQ]
        exact ⟨rfl, lay5, fK.trans (Fr.mu _ _ rfl), by rw [Mu_ct]; rfl, by rw [Mu_ct]; rfl, by rw [Mu_ct]; rfl, by rw [Mu_ct]; rfl, fun j hj => by rw [Mu_ct]; exact hK j (by omega)⟩
      · replace h1 : ¬ (36 ≤ (i : Int)) := h1
        omega
    | succ k ih =>
      intro i K hi layK fK hK
      have ci : pm_ct K 5 i = (tX T i : Int) := by rw [fK.ct (by decide)]; exact b5 i (by omega)
      have x10 := g3 i
      refine g_iload_n lk_83_2 rfl ?_
      refine g_aload_n lk_83_3 rfl ?_
      refine g_getfield lk_83_4 rfl (layK.on (by decide) rfl) (v := ((25 : Nat) : Int)) (layK.rf rfl) ?_
      refine g_arraylength (n := 36) lk_83_7 (by decide) (layK.ay (by decide) rfl) ?_
      refine g_icmp (t := 29) lk_83_8 rfl (by first | (unfold pm_inI; omega) | exact pm_and_in _ _ | exact pm_shr_in _ _ | exact pm_or_in _ _ | exact pm_xor_in _ _ | exact pm_shl_in _ _ | exact pm_cmp_in _ _ | exact pm_b8_in _ | (unfold pm_inI; split <;> omega)) (by first | (unfold pm_inI; omega) | exact pm_and_in _ _ | exact pm_shr_in _ _ | exact pm_or_in _ _ | exact pm_xor_in _ _ | exact pm_shl_in _ _ | exact pm_cmp_in _ _ | exact pm_b8_in _ | (unfold pm_inI; split <;> omega)) (fun h1 => ?_) (fun h1 => ?_)
      · replace h1 : 36 ≤ (i : Int) := h1
        omega
      · replace h1 : ¬ (36 ≤ (i : Int)) := h1
        refine g_aload_n lk_83_11 rfl ?_
        refine g_getfield lk_83_12 rfl (layK.on (by decide) rfl) (v := ((25 : Nat) : Int)) (layK.rf rfl) ?_
        refine g_iload_n lk_83_15 rfl ?_
        refine g_aload_n lk_83_16 rfl ?_
        refine g_getfield lk_83_17 rfl (layK.on (by decide) rfl) (v := ((5 : Nat) : Int)) (layK.rf rfl) ?_
        refine g_iload_n lk_83_20 rfl ?_
        refine m_iaload (u := []) (M := K) lk_83_21 (layK.ay (by decide) rfl) (by omega) (j := i) (by omega) (v := pm_ct K 5 i) rfl ?_
        refine g_top (z := (pm_ct K 5 i)) (z' := (tX T i : Int)) (ci) ?_
        have lay2 : Lay (Mu [(25, pm_upd (pm_ct K 25) i (tX T i : Int))] K) := layK.muA (l := []) (a := 25) (f := pm_upd (pm_ct K 25) i (tX T i : Int)) rfl rfl
        refine m_iastore (u := []) (u' := [(25, pm_upd (pm_ct K 25) i (tX T i : Int))]) (M := K) lk_83_22 (layK.ay (by decide) rfl) (by omega) (j := i) (by omega) rfl ?_
        refine g_iinc (ls' := [(2, ((24 : Nat) : Int)), (2, ((4 : Nat) : Int)), (0, ((i : Int) + 1))]) lk_83_23 rfl rfl rfl ?_
        refine g_goto (t := 2) lk_83_26 rfl ?_
        exact ih (i + 1) (Mu [(25, pm_upd (pm_ct K 25) i (tX T i : Int))] K) (by omega) lay2 (fK.trans (Fr.mu _ _ rfl)) (fun j hj => by
          rw [Mu_ct]
          show pm_upd (pm_ct K 25) i (tX T i : Int) j = _
          by_cases e : j = i
          · rw [e, pm_upd_eq]
          · rw [pm_upd_ne e]; exact hK j (by omega))
  refine g_iconst lk_83_0 ?_
  refine g_istore_n (ls' := [(2, ((24 : Nat) : Int)), (2, ((4 : Nat) : Int)), (0, 0)]) lk_83_1 rfl rfl ?_
  exact loop 36 0 M (by omega) lay (Fr.refl _ _) (fun j hj => by omega)
