/-! ===== the class takes the trees that were read ===== -/
theorem c_Nodes_copyFrom0 {d mc ms : Nat} {M : pm_M} (lay : Lay M) {L : List Nd} (l31 : L.length ≤ 31) (hc : pm_ct M 8 3 = (L.length : Int)) (hL : SgAt M 8 0 L) :
    pm_E (d + 1) 37 [(2, ((55 : Nat) : Int)), (2, ((8 : Nat) : Int))] M mc ms (fun ρ M' => ρ = none ∧ Lay M' ∧ Fr [55, 56, 57, 58] M M' ∧ pm_ct M' 55 3 = (L.length : Int) ∧ NdL M' 56 57 58 L) := by
  obtain ⟨Q, hQ⟩ : ∃ Q : pm_Q, Q = (fun ρ M' => ρ = none ∧ Lay M' ∧ Fr [55, 56, 57, 58] M M' ∧ pm_ct M' 55 3 = (L.length : Int) ∧ NdL M' 56 57 58 L) := ⟨_, rfl⟩
  rw [← hQ]
  obtain ⟨l, hl⟩ : ∃ l, l = L.length := ⟨_, rfl⟩
  rw [← hl] at l31 hc
  show Wp (d + 1) 37 0 [(2, ((55 : Nat) : Int)), (2, ((8 : Nat) : Int)), (9, 0)] [] M mc ms Q
  have loop : ∀ (k i : Nat) (K : pm_M), i + k = l → Lay K → Fr [55, 56, 57, 58] M K → pm_ct K 55 3 = (l : Int) → (∀ j, j < i → pm_ct K 56 j = ((ndA L j).1 : Int) ∧ pm_ct K 57 j = ((ndA L j).2.1 : Int) ∧ pm_ct K 58 j = (ndA L j).2.2) → Wp (d + 1) 37 18 [(2, ((55 : Nat) : Int)), (2, ((8 : Nat) : Int)), (0, (i : Int))] [] K mc ms Q := by
    intro k
    induction k with
    | zero =>
      intro i K hi layK fK ct hK
      refine g_iload_n lk_37_18 rfl ?_
      refine g_aload_n lk_37_19 rfl ?_
      refine m_getfield (u := []) (M := K) lk_37_20 rfl (layK.on (by decide) rfl) (v := (l : Int)) ct ?_
      refine g_icmp (t := 68) lk_37_23 rfl (by first | (unfold pm_inI; omega) | exact pm_and_in _ _ | exact pm_shr_in _ _ | exact pm_or_in _ _ | exact pm_xor_in _ _ | exact pm_shl_in _ _ | exact pm_cmp_in _ _ | exact pm_b8_in _ | (unfold pm_inI; split <;> omega)) (by first | (unfold pm_inI; omega) | exact pm_and_in _ _ | exact pm_shr_in _ _ | exact pm_or_in _ _ | exact pm_xor_in _ _ | exact pm_shl_in _ _ | exact pm_cmp_in _ _ | exact pm_b8_in _ | (unfold pm_inI; split <;> omega)) (fun h1 => ?_) (fun h1 => ?_)
      · replace h1 : (l : Int) ≤ (i : Int) := h1
        refine g_return lk_37_68 ?_
        rw [hQ]
        refine ⟨rfl, layK, fK, by rw [← hl]; exact ct, fun j x hx => ?_⟩
        have jl := (List.getElem?_eq_some_iff.mp hx).1
        have ex := ndA_get jl
        rw [hx] at ex
        rw [Option.some.inj ex]
        exact hK j (by omega)
      · replace h1 : ¬ ((l : Int) ≤ (i : Int)) := h1
        omega
    | succ k ih =>
      intro i K hi layK fK ct hK
      have gt := hL i _ (ndA_get (L := L) (k := i) (by omega))
      rw [Nat.zero_add] at gt
      obtain ⟨y1, y2, y3⟩ := gt
      have z1 : pm_ct K 9 i = ((ndA L i).1 : Int) := by rw [fK.ct (by decide)]; exact y1
      have z2 : pm_ct K 10 i = ((ndA L i).2.1 : Int) := by rw [fK.ct (by decide)]; exact y2
      have z3 : pm_ct K 11 i = (ndA L i).2.2 := by rw [fK.ct (by decide)]; exact y3
      obtain ⟨x1, hx1⟩ : ∃ x, x = (ndA L i).1 := ⟨_, rfl⟩
      obtain ⟨x2, hx2⟩ : ∃ x, x = (ndA L i).2.1 := ⟨_, rfl⟩
      obtain ⟨x3, hx3⟩ : ∃ x, x = (ndA L i).2.2 := ⟨_, rfl⟩
      rw [← hx1] at z1
      rw [← hx2] at z2
      rw [← hx3] at z3
      refine g_iload_n lk_37_18 rfl ?_
      refine g_aload_n lk_37_19 rfl ?_
      refine m_getfield (u := []) (M := K) lk_37_20 rfl (layK.on (by decide) rfl) (v := (l : Int)) ct ?_
      refine g_icmp (t := 68) lk_37_23 rfl (by first | (unfold pm_inI; omega) | exact pm_and_in _ _ | exact pm_shr_in _ _ | exact pm_or_in _ _ | exact pm_xor_in _ _ | exact pm_shl_in _ _ | exact pm_cmp_in _ _ | exact pm_b8_in _ | (unfold pm_inI; split <;> omega)) (by first | (unfold pm_inI; omega) | exact pm_and_in _ _ | exact pm_shr_in _ _ | exact pm_or_in _ _ | exact pm_xor_in _ _ | exact pm_shl_in _ _ | exact pm_cmp_in _ _ | exact pm_b8_in _ | (unfold pm_inI; split <;> omega)) (fun h1 => ?_) (fun h1 => ?_)
      · replace h1 : (l : Int) ≤ (i : Int) := h1
        omega
      · replace h1 : ¬ ((l : Int) ≤ (i : Int)) := h1
        refine g_aload_n lk_37_26 rfl ?_
        refine g_getfield lk_37_27 rfl (layK.on (by decide) rfl) (v := ((56 : Nat) : Int)) (layK.rf rfl) ?_
        refine g_iload_n lk_37_30 rfl ?_
        refine g_aload_n lk_37_31 rfl ?_
        refine g_getfield lk_37_32 rfl (layK.on (by decide) rfl) (v := ((9 : Nat) : Int)) (layK.rf rfl) ?_
        refine g_iload_n lk_37_35 rfl ?_
        refine m_iaload (u := []) (M := K) lk_37_36 (layK.ay (by decide) rfl) (by omega) (j := i) (by omega) (v := (x1 : Int)) z1 ?_
        have lay2 : Lay (Mu [(56, pm_upd (pm_ct K 56) i (x1 : Int))] K) := layK.muA (l := []) (a := 56) (f := pm_upd (pm_ct K 56) i (x1 : Int)) rfl rfl
        refine m_iastore (u := []) (u' := [(56, pm_upd (pm_ct K 56) i (x1 : Int))]) (M := K) lk_37_37 (layK.ay (by decide) rfl) (by omega) (j := i) (by omega) rfl ?_
        refine g_aload_n lk_37_38 rfl ?_
        refine g_getfield lk_37_39 rfl (lay2.on (by decide) rfl) (v := ((57 : Nat) : Int)) (lay2.rf rfl) ?_
        refine g_iload_n lk_37_42 rfl ?_
        refine g_aload_n lk_37_43 rfl ?_
        refine g_getfield lk_37_44 rfl (lay2.on (by decide) rfl) (v := ((10 : Nat) : Int)) (lay2.rf rfl) ?_
        refine g_iload_n lk_37_47 rfl ?_
        refine m_iaload (u := [(56, pm_upd (pm_ct K 56) i (x1 : Int))]) (M := K) lk_37_48 (lay2.ay (by decide) rfl) (by omega) (j := i) (by omega) (v := (x2 : Int)) z2 ?_
        have lay3 : Lay (Mu [(56, pm_upd (pm_ct K 56) i (x1 : Int)), (57, pm_upd (pm_ct K 57) i (x2 : Int))] K) := lay2.muA (l := [(56, pm_upd (pm_ct K 56) i (x1 : Int))]) (a := 57) (f := pm_upd (pm_ct K 57) i (x2 : Int)) rfl rfl
        refine m_iastore (u := [(56, pm_upd (pm_ct K 56) i (x1 : Int))]) (u' := [(56, pm_upd (pm_ct K 56) i (x1 : Int)), (57, pm_upd (pm_ct K 57) i (x2 : Int))]) (M := K) lk_37_49 (lay2.ay (by decide) rfl) (by omega) (j := i) (by omega) rfl ?_
        refine g_aload_n lk_37_50 rfl ?_
        refine g_getfield lk_37_51 rfl (lay3.on (by decide) rfl) (v := ((58 : Nat) : Int)) (lay3.rf rfl) ?_
        refine g_iload_n lk_37_54 rfl ?_
        refine g_aload_n lk_37_55 rfl ?_
        refine g_getfield lk_37_56 rfl (lay3.on (by decide) rfl) (v := ((11 : Nat) : Int)) (lay3.rf rfl) ?_
        refine g_iload_n lk_37_59 rfl ?_
        refine m_iaload (u := [(56, pm_upd (pm_ct K 56) i (x1 : Int)), (57, pm_upd (pm_ct K 57) i (x2 : Int))]) (M := K) lk_37_60 (lay3.ay (by decide) rfl) (by omega) (j := i) (by omega) (v := x3) z3 ?_
        have lay4 : Lay (Mu [(56, pm_upd (pm_ct K 56) i (x1 : Int)), (57, pm_upd (pm_ct K 57) i (x2 : Int)), (58, pm_upd (pm_ct K 58) i x3)] K) := lay3.muA (l := [(56, pm_upd (pm_ct K 56) i (x1 : Int)), (57, pm_upd (pm_ct K 57) i (x2 : Int))]) (a := 58) (f := pm_upd (pm_ct K 58) i x3) rfl rfl
        refine m_iastore (u := [(56, pm_upd (pm_ct K 56) i (x1 : Int)), (57, pm_upd (pm_ct K 57) i (x2 : Int))]) (u' := [(56, pm_upd (pm_ct K 56) i (x1 : Int)), (57, pm_upd (pm_ct K 57) i (x2 : Int)), (58, pm_upd (pm_ct K 58) i x3)]) (M := K) lk_37_61 (lay3.ay (by decide) rfl) (by omega) (j := i) (by omega) rfl ?_
        refine g_iinc (ls' := [(2, ((55 : Nat) : Int)), (2, ((8 : Nat) : Int)), (0, ((i : Int) + 1))]) lk_37_62 rfl rfl rfl ?_
        refine g_goto (t := 18) lk_37_65 rfl ?_
        refine ih (i + 1) (Mu [(56, pm_upd (pm_ct K 56) i (x1 : Int)), (57, pm_upd (pm_ct K 57) i (x2 : Int)), (58, pm_upd (pm_ct K 58) i x3)] K) (by omega) lay4 (fK.trans (Fr.mu _ _ rfl)) (by rw [Mu_ct]; exact ct) (fun j hj => ?_)
        rw [Mu_ct, Mu_ct, Mu_ct]
        show pm_upd (pm_ct K 56) i (x1 : Int) j = _ ∧ pm_upd (pm_ct K 57) i (x2 : Int) j = _ ∧ pm_upd (pm_ct K 58) i x3 j = _
        by_cases e : j = i
        · rw [e, pm_upd_eq, pm_upd_eq, pm_upd_eq, hx1, hx2, hx3]; exact ⟨rfl, rfl, rfl⟩
        · rw [pm_upd_ne e, pm_upd_ne e, pm_upd_ne e]; exact hK j (by omega)
  have em : min (l : Int) 31 = (l : Int) := by omega
  refine g_aload_n lk_37_0 rfl ?_
  refine g_aload_n lk_37_1 rfl ?_
  refine m_getfield (u := []) (M := M) lk_37_2 rfl (lay.on (by decide) rfl) (v := (l : Int)) hc ?_
  refine g_aload_n lk_37_5 rfl ?_
  refine g_getfield lk_37_6 rfl (lay.on (by decide) rfl) (v := ((56 : Nat) : Int)) (lay.rf rfl) ?_
  refine g_arraylength (n := 31) lk_37_9 (by decide) (lay.ay (by decide) rfl) ?_
  refine g_mmin lk_37_10 (by first | (unfold pm_inI; omega) | exact pm_and_in _ _ | exact pm_shr_in _ _ | exact pm_or_in _ _ | exact pm_xor_in _ _ | exact pm_shl_in _ _ | exact pm_cmp_in _ _ | exact pm_b8_in _ | (unfold pm_inI; split <;> omega)) (by first | (unfold pm_inI; omega) | exact pm_and_in _ _ | exact pm_shr_in _ _ | exact pm_or_in _ _ | exact pm_xor_in _ _ | exact pm_shl_in _ _ | exact pm_cmp_in _ _ | exact pm_b8_in _ | (unfold pm_inI; split <;> omega)) (Nat.le_of_ble_eq_true rfl) ?_
  refine g_top (z := (min (l : Int) 31)) (z' := (l : Int)) (em) ?_
  have lay1 : Lay (Mu [(55, pm_upd (pm_ct M 55) 3 (l : Int))] M) := lay.muF (l := []) (a := 55) (k := 3) (z := (l : Int)) rfl rfl
  refine m_putfield (u := []) (u' := [(55, pm_upd (pm_ct M 55) 3 (l : Int))]) (M := M) lk_37_13 rfl (lay.on (by decide) rfl) (fun h => absurd h (by decide)) rfl ?_
  refine g_iconst lk_37_16 ?_
  refine g_istore_n (ls' := [(2, ((55 : Nat) : Int)), (2, ((8 : Nat) : Int)), (0, 0)]) lk_37_17 rfl rfl ?_
  exact loop l 0 (Mu [(55, pm_upd (pm_ct M 55) 3 (l : Int))] M) (by omega) lay1 (Fr.mu _ _ rfl) (by rw [Mu_ct]; rfl) (fun j hj => by omega)
theorem c_Told_take0 {d mc ms : Nat} {M : pm_M} (lay : Lay M) {T : Tab} (hT : TabOK T) (hM : TbAt M 24 T) {L : List Nd} {p dp : Nat → Nat} (hX : TrX L p dp) (hc : pm_ct M 8 3 = (L.length : Int)) (hL : SgAt M 8 0 L) :
    pm_E (d + 3) 97 [(2, ((54 : Nat) : Int)), (2, ((8 : Nat) : Int)), (2, ((24 : Nat) : Int))] M mc ms (fun ρ M' => ρ = none ∧ Lay M' ∧ Fr [55, 56, 57, 58, 59, 60, 61, 62, 63, 64] M M' ∧ TdAt M' 54 T L p dp) := by
  have cp := c_Nodes_copyFrom0 (d := d + 1) (mc := 0) (ms := 0) lay hX.1.2.1 hc hL
  show Wp (d + 3) 97 0 [(2, ((54 : Nat) : Int)), (2, ((8 : Nat) : Int)), (2, ((24 : Nat) : Int))] [] M mc ms _
  refine g_aload_n lk_97_0 rfl ?_
  refine g_getfield lk_97_1 rfl (lay.on (by decide) rfl) (v := ((55 : Nat) : Int)) (lay.rf rfl) ?_
  refine g_aload_n lk_97_4 rfl ?_
  refine g_virtual (p := 55) (Qc := _) lk_97_5 rfl (Nat.le_of_ble_eq_true rfl) rfl rfl (lay.on (by decide) rfl) (Nat.le_of_ble_eq_true rfl) (Nat.le_of_ble_eq_true rfl) (Nat.zero_le _) (Nat.zero_le _) (cp) ?_
  rintro _ K1 ⟨rfl, lay1, f1, c1, n1⟩
  have fo := c_Told_follow0 (d := d) (mc := 0) (ms := 0) lay1 hT (hM.fr f1 (by decide) (by decide)) hX.1 hX.2.1 c1 n1
  show Wp _ 97 8 [(2, ((54 : Nat) : Int)), (2, ((8 : Nat) : Int)), (2, ((24 : Nat) : Int))] [] K1 _ _ _
  refine g_aload_n lk_97_8 rfl ?_
  refine g_aload_n lk_97_9 rfl ?_
  refine g_virtual (p := 54) (Qc := _) lk_97_10 rfl (Nat.le_of_ble_eq_true rfl) rfl rfl (lay1.on (by decide) rfl) (Nat.le_of_ble_eq_true rfl) (Nat.le_of_ble_eq_true rfl) (Nat.zero_le _) (Nat.zero_le _) (fo) ?_
  rintro _ K2 ⟨rfl, lay2, f2, cm2⟩
  show Wp _ 97 13 [(2, ((54 : Nat) : Int)), (2, ((8 : Nat) : Int)), (2, ((24 : Nat) : Int))] [] K2 _ _ _
  refine g_return lk_97_13 ?_
  refine ⟨rfl, lay2, (f1.mono (fun a q => by simp at q ⊢; omega)).trans (f2.mono (fun a q => by simp at q ⊢; omega)), hX, ?_, ?_, cm2⟩
  · show pm_ct K2 55 3 = _
    rw [f2.ct (by decide)]; exact c1
  · show NdL K2 56 57 58 L
    unfold NdL
    rw [f2.ct (by decide), f2.ct (by decide), f2.ct (by decide)]
    exact n1
theorem c_Nodes_copyFrom1 {d mc ms : Nat} {M : pm_M} (lay : Lay M) {L : List Nd} (l31 : L.length ≤ 31) (hc : pm_ct M 12 3 = (L.length : Int)) (hL : SgAt M 12 0 L) :
    pm_E (d + 1) 37 [(2, ((66 : Nat) : Int)), (2, ((12 : Nat) : Int))] M mc ms (fun ρ M' => ρ = none ∧ Lay M' ∧ Fr [66, 67, 68, 69] M M' ∧ pm_ct M' 66 3 = (L.length : Int) ∧ NdL M' 67 68 69 L) := by
  obtain ⟨Q, hQ⟩ : ∃ Q : pm_Q, Q = (fun ρ M' => ρ = none ∧ Lay M' ∧ Fr [66, 67, 68, 69] M M' ∧ pm_ct M' 66 3 = (L.length : Int) ∧ NdL M' 67 68 69 L) := ⟨_, rfl⟩
  rw [← hQ]
  obtain ⟨l, hl⟩ : ∃ l, l = L.length := ⟨_, rfl⟩
  rw [← hl] at l31 hc
  show Wp (d + 1) 37 0 [(2, ((66 : Nat) : Int)), (2, ((12 : Nat) : Int)), (9, 0)] [] M mc ms Q
  have loop : ∀ (k i : Nat) (K : pm_M), i + k = l → Lay K → Fr [66, 67, 68, 69] M K → pm_ct K 66 3 = (l : Int) → (∀ j, j < i → pm_ct K 67 j = ((ndA L j).1 : Int) ∧ pm_ct K 68 j = ((ndA L j).2.1 : Int) ∧ pm_ct K 69 j = (ndA L j).2.2) → Wp (d + 1) 37 18 [(2, ((66 : Nat) : Int)), (2, ((12 : Nat) : Int)), (0, (i : Int))] [] K mc ms Q := by
    intro k
    induction k with
    | zero =>
      intro i K hi layK fK ct hK
      refine g_iload_n lk_37_18 rfl ?_
      refine g_aload_n lk_37_19 rfl ?_
      refine m_getfield (u := []) (M := K) lk_37_20 rfl (layK.on (by decide) rfl) (v := (l : Int)) ct ?_
      refine g_icmp (t := 68) lk_37_23 rfl (by first | (unfold pm_inI; omega) | exact pm_and_in _ _ | exact pm_shr_in _ _ | exact pm_or_in _ _ | exact pm_xor_in _ _ | exact pm_shl_in _ _ | exact pm_cmp_in _ _ | exact pm_b8_in _ | (unfold pm_inI; split <;> omega)) (by first | (unfold pm_inI; omega) | exact pm_and_in _ _ | exact pm_shr_in _ _ | exact pm_or_in _ _ | exact pm_xor_in _ _ | exact pm_shl_in _ _ | exact pm_cmp_in _ _ | exact pm_b8_in _ | (unfold pm_inI; split <;> omega)) (fun h1 => ?_) (fun h1 => ?_)
      · replace h1 : (l : Int) ≤ (i : Int) := h1
        refine g_return lk_37_68 ?_
        rw [hQ]
        refine ⟨rfl, layK, fK, by rw [← hl]; exact ct, fun j x hx => ?_⟩
        have jl := (List.getElem?_eq_some_iff.mp hx).1
        have ex := ndA_get jl
        rw [hx] at ex
        rw [Option.some.inj ex]
        exact hK j (by omega)
      · replace h1 : ¬ ((l : Int) ≤ (i : Int)) := h1
        omega
    | succ k ih =>
      intro i K hi layK fK ct hK
      have gt := hL i _ (ndA_get (L := L) (k := i) (by omega))
      rw [Nat.zero_add] at gt
      obtain ⟨y1, y2, y3⟩ := gt
      have z1 : pm_ct K 13 i = ((ndA L i).1 : Int) := by rw [fK.ct (by decide)]; exact y1
      have z2 : pm_ct K 14 i = ((ndA L i).2.1 : Int) := by rw [fK.ct (by decide)]; exact y2
      have z3 : pm_ct K 15 i = (ndA L i).2.2 := by rw [fK.ct (by decide)]; exact y3
      obtain ⟨x1, hx1⟩ : ∃ x, x = (ndA L i).1 := ⟨_, rfl⟩
      obtain ⟨x2, hx2⟩ : ∃ x, x = (ndA L i).2.1 := ⟨_, rfl⟩
      obtain ⟨x3, hx3⟩ : ∃ x, x = (ndA L i).2.2 := ⟨_, rfl⟩
      rw [← hx1] at z1
      rw [← hx2] at z2
      rw [← hx3] at z3
      refine g_iload_n lk_37_18 rfl ?_
      refine g_aload_n lk_37_19 rfl ?_
      refine m_getfield (u := []) (M := K) lk_37_20 rfl (layK.on (by decide) rfl) (v := (l : Int)) ct ?_
      refine g_icmp (t := 68) lk_37_23 rfl (by first | (unfold pm_inI; omega) | exact pm_and_in _ _ | exact pm_shr_in _ _ | exact pm_or_in _ _ | exact pm_xor_in _ _ | exact pm_shl_in _ _ | exact pm_cmp_in _ _ | exact pm_b8_in _ | (unfold pm_inI; split <;> omega)) (by first | (unfold pm_inI; omega) | exact pm_and_in _ _ | exact pm_shr_in _ _ | exact pm_or_in _ _ | exact pm_xor_in _ _ | exact pm_shl_in _ _ | exact pm_cmp_in _ _ | exact pm_b8_in _ | (unfold pm_inI; split <;> omega)) (fun h1 => ?_) (fun h1 => ?_)
      · replace h1 : (l : Int) ≤ (i : Int) := h1
        omega
      · replace h1 : ¬ ((l : Int) ≤ (i : Int)) := h1
        refine g_aload_n lk_37_26 rfl ?_
        refine g_getfield lk_37_27 rfl (layK.on (by decide) rfl) (v := ((67 : Nat) : Int)) (layK.rf rfl) ?_
        refine g_iload_n lk_37_30 rfl ?_
        refine g_aload_n lk_37_31 rfl ?_
        refine g_getfield lk_37_32 rfl (layK.on (by decide) rfl) (v := ((13 : Nat) : Int)) (layK.rf rfl) ?_
        refine g_iload_n lk_37_35 rfl ?_
        refine m_iaload (u := []) (M := K) lk_37_36 (layK.ay (by decide) rfl) (by omega) (j := i) (by omega) (v := (x1 : Int)) z1 ?_
        have lay2 : Lay (Mu [(67, pm_upd (pm_ct K 67) i (x1 : Int))] K) := layK.muA (l := []) (a := 67) (f := pm_upd (pm_ct K 67) i (x1 : Int)) rfl rfl
        refine m_iastore (u := []) (u' := [(67, pm_upd (pm_ct K 67) i (x1 : Int))]) (M := K) lk_37_37 (layK.ay (by decide) rfl) (by omega) (j := i) (by omega) rfl ?_
        refine g_aload_n lk_37_38 rfl ?_
        refine g_getfield lk_37_39 rfl (lay2.on (by decide) rfl) (v := ((68 : Nat) : Int)) (lay2.rf rfl) ?_
        refine g_iload_n lk_37_42 rfl ?_
        refine g_aload_n lk_37_43 rfl ?_
        refine g_getfield lk_37_44 rfl (lay2.on (by decide) rfl) (v := ((14 : Nat) : Int)) (lay2.rf rfl) ?_
        refine g_iload_n lk_37_47 rfl ?_
        refine m_iaload (u := [(67, pm_upd (pm_ct K 67) i (x1 : Int))]) (M := K) lk_37_48 (lay2.ay (by decide) rfl) (by omega) (j := i) (by omega) (v := (x2 : Int)) z2 ?_
        have lay3 : Lay (Mu [(67, pm_upd (pm_ct K 67) i (x1 : Int)), (68, pm_upd (pm_ct K 68) i (x2 : Int))] K) := lay2.muA (l := [(67, pm_upd (pm_ct K 67) i (x1 : Int))]) (a := 68) (f := pm_upd (pm_ct K 68) i (x2 : Int)) rfl rfl
        refine m_iastore (u := [(67, pm_upd (pm_ct K 67) i (x1 : Int))]) (u' := [(67, pm_upd (pm_ct K 67) i (x1 : Int)), (68, pm_upd (pm_ct K 68) i (x2 : Int))]) (M := K) lk_37_49 (lay2.ay (by decide) rfl) (by omega) (j := i) (by omega) rfl ?_
        refine g_aload_n lk_37_50 rfl ?_
        refine g_getfield lk_37_51 rfl (lay3.on (by decide) rfl) (v := ((69 : Nat) : Int)) (lay3.rf rfl) ?_
        refine g_iload_n lk_37_54 rfl ?_
        refine g_aload_n lk_37_55 rfl ?_
        refine g_getfield lk_37_56 rfl (lay3.on (by decide) rfl) (v := ((15 : Nat) : Int)) (lay3.rf rfl) ?_
        refine g_iload_n lk_37_59 rfl ?_
        refine m_iaload (u := [(67, pm_upd (pm_ct K 67) i (x1 : Int)), (68, pm_upd (pm_ct K 68) i (x2 : Int))]) (M := K) lk_37_60 (lay3.ay (by decide) rfl) (by omega) (j := i) (by omega) (v := x3) z3 ?_
        have lay4 : Lay (Mu [(67, pm_upd (pm_ct K 67) i (x1 : Int)), (68, pm_upd (pm_ct K 68) i (x2 : Int)), (69, pm_upd (pm_ct K 69) i x3)] K) := lay3.muA (l := [(67, pm_upd (pm_ct K 67) i (x1 : Int)), (68, pm_upd (pm_ct K 68) i (x2 : Int))]) (a := 69) (f := pm_upd (pm_ct K 69) i x3) rfl rfl
        refine m_iastore (u := [(67, pm_upd (pm_ct K 67) i (x1 : Int)), (68, pm_upd (pm_ct K 68) i (x2 : Int))]) (u' := [(67, pm_upd (pm_ct K 67) i (x1 : Int)), (68, pm_upd (pm_ct K 68) i (x2 : Int)), (69, pm_upd (pm_ct K 69) i x3)]) (M := K) lk_37_61 (lay3.ay (by decide) rfl) (by omega) (j := i) (by omega) rfl ?_
        refine g_iinc (ls' := [(2, ((66 : Nat) : Int)), (2, ((12 : Nat) : Int)), (0, ((i : Int) + 1))]) lk_37_62 rfl rfl rfl ?_
        refine g_goto (t := 18) lk_37_65 rfl ?_
        refine ih (i + 1) (Mu [(67, pm_upd (pm_ct K 67) i (x1 : Int)), (68, pm_upd (pm_ct K 68) i (x2 : Int)), (69, pm_upd (pm_ct K 69) i x3)] K) (by omega) lay4 (fK.trans (Fr.mu _ _ rfl)) (by rw [Mu_ct]; exact ct) (fun j hj => ?_)
        rw [Mu_ct, Mu_ct, Mu_ct]
        show pm_upd (pm_ct K 67) i (x1 : Int) j = _ ∧ pm_upd (pm_ct K 68) i (x2 : Int) j = _ ∧ pm_upd (pm_ct K 69) i x3 j = _
        by_cases e : j = i
        · rw [e, pm_upd_eq, pm_upd_eq, pm_upd_eq, hx1, hx2, hx3]; exact ⟨rfl, rfl, rfl⟩
        · rw [pm_upd_ne e, pm_upd_ne e, pm_upd_ne e]; exact hK j (by omega)
  have em : min (l : Int) 31 = (l : Int) := by omega
  refine g_aload_n lk_37_0 rfl ?_
  refine g_aload_n lk_37_1 rfl ?_
  refine m_getfield (u := []) (M := M) lk_37_2 rfl (lay.on (by decide) rfl) (v := (l : Int)) hc ?_
  refine g_aload_n lk_37_5 rfl ?_
  refine g_getfield lk_37_6 rfl (lay.on (by decide) rfl) (v := ((67 : Nat) : Int)) (lay.rf rfl) ?_
  refine g_arraylength (n := 31) lk_37_9 (by decide) (lay.ay (by decide) rfl) ?_
  refine g_mmin lk_37_10 (by first | (unfold pm_inI; omega) | exact pm_and_in _ _ | exact pm_shr_in _ _ | exact pm_or_in _ _ | exact pm_xor_in _ _ | exact pm_shl_in _ _ | exact pm_cmp_in _ _ | exact pm_b8_in _ | (unfold pm_inI; split <;> omega)) (by first | (unfold pm_inI; omega) | exact pm_and_in _ _ | exact pm_shr_in _ _ | exact pm_or_in _ _ | exact pm_xor_in _ _ | exact pm_shl_in _ _ | exact pm_cmp_in _ _ | exact pm_b8_in _ | (unfold pm_inI; split <;> omega)) (Nat.le_of_ble_eq_true rfl) ?_
  refine g_top (z := (min (l : Int) 31)) (z' := (l : Int)) (em) ?_
  have lay1 : Lay (Mu [(66, pm_upd (pm_ct M 66) 3 (l : Int))] M) := lay.muF (l := []) (a := 66) (k := 3) (z := (l : Int)) rfl rfl
  refine m_putfield (u := []) (u' := [(66, pm_upd (pm_ct M 66) 3 (l : Int))]) (M := M) lk_37_13 rfl (lay.on (by decide) rfl) (fun h => absurd h (by decide)) rfl ?_
  refine g_iconst lk_37_16 ?_
  refine g_istore_n (ls' := [(2, ((66 : Nat) : Int)), (2, ((12 : Nat) : Int)), (0, 0)]) lk_37_17 rfl rfl ?_
  exact loop l 0 (Mu [(66, pm_upd (pm_ct M 66) 3 (l : Int))] M) (by omega) lay1 (Fr.mu _ _ rfl) (by rw [Mu_ct]; rfl) (fun j hj => by omega)
theorem c_Told_take1 {d mc ms : Nat} {M : pm_M} (lay : Lay M) {T : Tab} (hT : TabOK T) (hM : TbAt M 24 T) {L : List Nd} {p dp : Nat → Nat} (hX : TrX L p dp) (hc : pm_ct M 12 3 = (L.length : Int)) (hL : SgAt M 12 0 L) :
    pm_E (d + 3) 97 [(2, ((65 : Nat) : Int)), (2, ((12 : Nat) : Int)), (2, ((24 : Nat) : Int))] M mc ms (fun ρ M' => ρ = none ∧ Lay M' ∧ Fr [66, 67, 68, 69, 70, 71, 72, 73, 74, 75] M M' ∧ TdAt M' 65 T L p dp) := by
  have cp := c_Nodes_copyFrom1 (d := d + 1) (mc := 0) (ms := 0) lay hX.1.2.1 hc hL
  show Wp (d + 3) 97 0 [(2, ((65 : Nat) : Int)), (2, ((12 : Nat) : Int)), (2, ((24 : Nat) : Int))] [] M mc ms _
  refine g_aload_n lk_97_0 rfl ?_
  refine g_getfield lk_97_1 rfl (lay.on (by decide) rfl) (v := ((66 : Nat) : Int)) (lay.rf rfl) ?_
  refine g_aload_n lk_97_4 rfl ?_
  refine g_virtual (p := 66) (Qc := _) lk_97_5 rfl (Nat.le_of_ble_eq_true rfl) rfl rfl (lay.on (by decide) rfl) (Nat.le_of_ble_eq_true rfl) (Nat.le_of_ble_eq_true rfl) (Nat.zero_le _) (Nat.zero_le _) (cp) ?_
  rintro _ K1 ⟨rfl, lay1, f1, c1, n1⟩
  have fo := c_Told_follow1 (d := d) (mc := 0) (ms := 0) lay1 hT (hM.fr f1 (by decide) (by decide)) hX.1 hX.2.1 c1 n1
  show Wp _ 97 8 [(2, ((65 : Nat) : Int)), (2, ((12 : Nat) : Int)), (2, ((24 : Nat) : Int))] [] K1 _ _ _
  refine g_aload_n lk_97_8 rfl ?_
  refine g_aload_n lk_97_9 rfl ?_
  refine g_virtual (p := 65) (Qc := _) lk_97_10 rfl (Nat.le_of_ble_eq_true rfl) rfl rfl (lay1.on (by decide) rfl) (Nat.le_of_ble_eq_true rfl) (Nat.le_of_ble_eq_true rfl) (Nat.zero_le _) (Nat.zero_le _) (fo) ?_
  rintro _ K2 ⟨rfl, lay2, f2, cm2⟩
  show Wp _ 97 13 [(2, ((65 : Nat) : Int)), (2, ((12 : Nat) : Int)), (2, ((24 : Nat) : Int))] [] K2 _ _ _
  refine g_return lk_97_13 ?_
  refine ⟨rfl, lay2, (f1.mono (fun a q => by simp at q ⊢; omega)).trans (f2.mono (fun a q => by simp at q ⊢; omega)), hX, ?_, ?_, cm2⟩
  · show pm_ct K2 66 3 = _
    rw [f2.ct (by decide)]; exact c1
  · show NdL K2 67 68 69 L
    unfold NdL
    rw [f2.ct (by decide), f2.ct (by decide), f2.ct (by decide)]
    exact n1
theorem c_Nodes_copyFrom2 {d mc ms : Nat} {M : pm_M} (lay : Lay M) {L : List Nd} (l31 : L.length ≤ 31) (hc : pm_ct M 16 3 = (L.length : Int)) (hL : SgAt M 16 0 L) :
    pm_E (d + 1) 37 [(2, ((77 : Nat) : Int)), (2, ((16 : Nat) : Int))] M mc ms (fun ρ M' => ρ = none ∧ Lay M' ∧ Fr [77, 78, 79, 80] M M' ∧ pm_ct M' 77 3 = (L.length : Int) ∧ NdL M' 78 79 80 L) := by
  obtain ⟨Q, hQ⟩ : ∃ Q : pm_Q, Q = (fun ρ M' => ρ = none ∧ Lay M' ∧ Fr [77, 78, 79, 80] M M' ∧ pm_ct M' 77 3 = (L.length : Int) ∧ NdL M' 78 79 80 L) := ⟨_, rfl⟩
  rw [← hQ]
  obtain ⟨l, hl⟩ : ∃ l, l = L.length := ⟨_, rfl⟩
  rw [← hl] at l31 hc
  show Wp (d + 1) 37 0 [(2, ((77 : Nat) : Int)), (2, ((16 : Nat) : Int)), (9, 0)] [] M mc ms Q
  have loop : ∀ (k i : Nat) (K : pm_M), i + k = l → Lay K → Fr [77, 78, 79, 80] M K → pm_ct K 77 3 = (l : Int) → (∀ j, j < i → pm_ct K 78 j = ((ndA L j).1 : Int) ∧ pm_ct K 79 j = ((ndA L j).2.1 : Int) ∧ pm_ct K 80 j = (ndA L j).2.2) → Wp (d + 1) 37 18 [(2, ((77 : Nat) : Int)), (2, ((16 : Nat) : Int)), (0, (i : Int))] [] K mc ms Q := by
    intro k
    induction k with
    | zero =>
      intro i K hi layK fK ct hK
      refine g_iload_n lk_37_18 rfl ?_
      refine g_aload_n lk_37_19 rfl ?_
      refine m_getfield (u := []) (M := K) lk_37_20 rfl (layK.on (by decide) rfl) (v := (l : Int)) ct ?_
      refine g_icmp (t := 68) lk_37_23 rfl (by first | (unfold pm_inI; omega) | exact pm_and_in _ _ | exact pm_shr_in _ _ | exact pm_or_in _ _ | exact pm_xor_in _ _ | exact pm_shl_in _ _ | exact pm_cmp_in _ _ | exact pm_b8_in _ | (unfold pm_inI; split <;> omega)) (by first | (unfold pm_inI; omega) | exact pm_and_in _ _ | exact pm_shr_in _ _ | exact pm_or_in _ _ | exact pm_xor_in _ _ | exact pm_shl_in _ _ | exact pm_cmp_in _ _ | exact pm_b8_in _ | (unfold pm_inI; split <;> omega)) (fun h1 => ?_) (fun h1 => ?_)
      · replace h1 : (l : Int) ≤ (i : Int) := h1
        refine g_return lk_37_68 ?_
        rw [hQ]
        refine ⟨rfl, layK, fK, by rw [← hl]; exact ct, fun j x hx => ?_⟩
        have jl := (List.getElem?_eq_some_iff.mp hx).1
        have ex := ndA_get jl
        rw [hx] at ex
        rw [Option.some.inj ex]
        exact hK j (by omega)
      · replace h1 : ¬ ((l : Int) ≤ (i : Int)) := h1
        omega
    | succ k ih =>
      intro i K hi layK fK ct hK
      have gt := hL i _ (ndA_get (L := L) (k := i) (by omega))
      rw [Nat.zero_add] at gt
      obtain ⟨y1, y2, y3⟩ := gt
      have z1 : pm_ct K 17 i = ((ndA L i).1 : Int) := by rw [fK.ct (by decide)]; exact y1
      have z2 : pm_ct K 18 i = ((ndA L i).2.1 : Int) := by rw [fK.ct (by decide)]; exact y2
      have z3 : pm_ct K 19 i = (ndA L i).2.2 := by rw [fK.ct (by decide)]; exact y3
      obtain ⟨x1, hx1⟩ : ∃ x, x = (ndA L i).1 := ⟨_, rfl⟩
      obtain ⟨x2, hx2⟩ : ∃ x, x = (ndA L i).2.1 := ⟨_, rfl⟩
      obtain ⟨x3, hx3⟩ : ∃ x, x = (ndA L i).2.2 := ⟨_, rfl⟩
      rw [← hx1] at z1
      rw [← hx2] at z2
      rw [← hx3] at z3
      refine g_iload_n lk_37_18 rfl ?_
      refine g_aload_n lk_37_19 rfl ?_
      refine m_getfield (u := []) (M := K) lk_37_20 rfl (layK.on (by decide) rfl) (v := (l : Int)) ct ?_
      refine g_icmp (t := 68) lk_37_23 rfl (by first | (unfold pm_inI; omega) | exact pm_and_in _ _ | exact pm_shr_in _ _ | exact pm_or_in _ _ | exact pm_xor_in _ _ | exact pm_shl_in _ _ | exact pm_cmp_in _ _ | exact pm_b8_in _ | (unfold pm_inI; split <;> omega)) (by first | (unfold pm_inI; omega) | exact pm_and_in _ _ | exact pm_shr_in _ _ | exact pm_or_in _ _ | exact pm_xor_in _ _ | exact pm_shl_in _ _ | exact pm_cmp_in _ _ | exact pm_b8_in _ | (unfold pm_inI; split <;> omega)) (fun h1 => ?_) (fun h1 => ?_)
      · replace h1 : (l : Int) ≤ (i : Int) := h1
        omega
      · replace h1 : ¬ ((l : Int) ≤ (i : Int)) := h1
        refine g_aload_n lk_37_26 rfl ?_
        refine g_getfield lk_37_27 rfl (layK.on (by decide) rfl) (v := ((78 : Nat) : Int)) (layK.rf rfl) ?_
        refine g_iload_n lk_37_30 rfl ?_
        refine g_aload_n lk_37_31 rfl ?_
        refine g_getfield lk_37_32 rfl (layK.on (by decide) rfl) (v := ((17 : Nat) : Int)) (layK.rf rfl) ?_
        refine g_iload_n lk_37_35 rfl ?_
        refine m_iaload (u := []) (M := K) lk_37_36 (layK.ay (by decide) rfl) (by omega) (j := i) (by omega) (v := (x1 : Int)) z1 ?_
        have lay2 : Lay (Mu [(78, pm_upd (pm_ct K 78) i (x1 : Int))] K) := layK.muA (l := []) (a := 78) (f := pm_upd (pm_ct K 78) i (x1 : Int)) rfl rfl
        refine m_iastore (u := []) (u' := [(78, pm_upd (pm_ct K 78) i (x1 : Int))]) (M := K) lk_37_37 (layK.ay (by decide) rfl) (by omega) (j := i) (by omega) rfl ?_
        refine g_aload_n lk_37_38 rfl ?_
        refine g_getfield lk_37_39 rfl (lay2.on (by decide) rfl) (v := ((79 : Nat) : Int)) (lay2.rf rfl) ?_
        refine g_iload_n lk_37_42 rfl ?_
        refine g_aload_n lk_37_43 rfl ?_
        refine g_getfield lk_37_44 rfl (lay2.on (by decide) rfl) (v := ((18 : Nat) : Int)) (lay2.rf rfl) ?_
        refine g_iload_n lk_37_47 rfl ?_
        refine m_iaload (u := [(78, pm_upd (pm_ct K 78) i (x1 : Int))]) (M := K) lk_37_48 (lay2.ay (by decide) rfl) (by omega) (j := i) (by omega) (v := (x2 : Int)) z2 ?_
        have lay3 : Lay (Mu [(78, pm_upd (pm_ct K 78) i (x1 : Int)), (79, pm_upd (pm_ct K 79) i (x2 : Int))] K) := lay2.muA (l := [(78, pm_upd (pm_ct K 78) i (x1 : Int))]) (a := 79) (f := pm_upd (pm_ct K 79) i (x2 : Int)) rfl rfl
        refine m_iastore (u := [(78, pm_upd (pm_ct K 78) i (x1 : Int))]) (u' := [(78, pm_upd (pm_ct K 78) i (x1 : Int)), (79, pm_upd (pm_ct K 79) i (x2 : Int))]) (M := K) lk_37_49 (lay2.ay (by decide) rfl) (by omega) (j := i) (by omega) rfl ?_
        refine g_aload_n lk_37_50 rfl ?_
        refine g_getfield lk_37_51 rfl (lay3.on (by decide) rfl) (v := ((80 : Nat) : Int)) (lay3.rf rfl) ?_
        refine g_iload_n lk_37_54 rfl ?_
        refine g_aload_n lk_37_55 rfl ?_
        refine g_getfield lk_37_56 rfl (lay3.on (by decide) rfl) (v := ((19 : Nat) : Int)) (lay3.rf rfl) ?_
        refine g_iload_n lk_37_59 rfl ?_
        refine m_iaload (u := [(78, pm_upd (pm_ct K 78) i (x1 : Int)), (79, pm_upd (pm_ct K 79) i (x2 : Int))]) (M := K) lk_37_60 (lay3.ay (by decide) rfl) (by omega) (j := i) (by omega) (v := x3) z3 ?_
        have lay4 : Lay (Mu [(78, pm_upd (pm_ct K 78) i (x1 : Int)), (79, pm_upd (pm_ct K 79) i (x2 : Int)), (80, pm_upd (pm_ct K 80) i x3)] K) := lay3.muA (l := [(78, pm_upd (pm_ct K 78) i (x1 : Int)), (79, pm_upd (pm_ct K 79) i (x2 : Int))]) (a := 80) (f := pm_upd (pm_ct K 80) i x3) rfl rfl
        refine m_iastore (u := [(78, pm_upd (pm_ct K 78) i (x1 : Int)), (79, pm_upd (pm_ct K 79) i (x2 : Int))]) (u' := [(78, pm_upd (pm_ct K 78) i (x1 : Int)), (79, pm_upd (pm_ct K 79) i (x2 : Int)), (80, pm_upd (pm_ct K 80) i x3)]) (M := K) lk_37_61 (lay3.ay (by decide) rfl) (by omega) (j := i) (by omega) rfl ?_
        refine g_iinc (ls' := [(2, ((77 : Nat) : Int)), (2, ((16 : Nat) : Int)), (0, ((i : Int) + 1))]) lk_37_62 rfl rfl rfl ?_
        refine g_goto (t := 18) lk_37_65 rfl ?_
        refine ih (i + 1) (Mu [(78, pm_upd (pm_ct K 78) i (x1 : Int)), (79, pm_upd (pm_ct K 79) i (x2 : Int)), (80, pm_upd (pm_ct K 80) i x3)] K) (by omega) lay4 (fK.trans (Fr.mu _ _ rfl)) (by rw [Mu_ct]; exact ct) (fun j hj => ?_)
        rw [Mu_ct, Mu_ct, Mu_ct]
        show pm_upd (pm_ct K 78) i (x1 : Int) j = _ ∧ pm_upd (pm_ct K 79) i (x2 : Int) j = _ ∧ pm_upd (pm_ct K 80) i x3 j = _
        by_cases e : j = i
        · rw [e, pm_upd_eq, pm_upd_eq, pm_upd_eq, hx1, hx2, hx3]; exact ⟨rfl, rfl, rfl⟩
        · rw [pm_upd_ne e, pm_upd_ne e, pm_upd_ne e]; exact hK j (by omega)
  have em : min (l : Int) 31 = (l : Int) := by omega
  refine g_aload_n lk_37_0 rfl ?_
  refine g_aload_n lk_37_1 rfl ?_
  refine m_getfield (u := []) (M := M) lk_37_2 rfl (lay.on (by decide) rfl) (v := (l : Int)) hc ?_
  refine g_aload_n lk_37_5 rfl ?_
  refine g_getfield lk_37_6 rfl (lay.on (by decide) rfl) (v := ((78 : Nat) : Int)) (lay.rf rfl) ?_
  refine g_arraylength (n := 31) lk_37_9 (by decide) (lay.ay (by decide) rfl) ?_
  refine g_mmin lk_37_10 (by first | (unfold pm_inI; omega) | exact pm_and_in _ _ | exact pm_shr_in _ _ | exact pm_or_in _ _ | exact pm_xor_in _ _ | exact pm_shl_in _ _ | exact pm_cmp_in _ _ | exact pm_b8_in _ | (unfold pm_inI; split <;> omega)) (by first | (unfold pm_inI; omega) | exact pm_and_in _ _ | exact pm_shr_in _ _ | exact pm_or_in _ _ | exact pm_xor_in _ _ | exact pm_shl_in _ _ | exact pm_cmp_in _ _ | exact pm_b8_in _ | (unfold pm_inI; split <;> omega)) (Nat.le_of_ble_eq_true rfl) ?_
  refine g_top (z := (min (l : Int) 31)) (z' := (l : Int)) (em) ?_
  have lay1 : Lay (Mu [(77, pm_upd (pm_ct M 77) 3 (l : Int))] M) := lay.muF (l := []) (a := 77) (k := 3) (z := (l : Int)) rfl rfl
  refine m_putfield (u := []) (u' := [(77, pm_upd (pm_ct M 77) 3 (l : Int))]) (M := M) lk_37_13 rfl (lay.on (by decide) rfl) (fun h => absurd h (by decide)) rfl ?_
  refine g_iconst lk_37_16 ?_
  refine g_istore_n (ls' := [(2, ((77 : Nat) : Int)), (2, ((16 : Nat) : Int)), (0, 0)]) lk_37_17 rfl rfl ?_
  exact loop l 0 (Mu [(77, pm_upd (pm_ct M 77) 3 (l : Int))] M) (by omega) lay1 (Fr.mu _ _ rfl) (by rw [Mu_ct]; rfl) (fun j hj => by omega)
theorem c_Told_take2 {d mc ms : Nat} {M : pm_M} (lay : Lay M) {T : Tab} (hT : TabOK T) (hM : TbAt M 24 T) {L : List Nd} {p dp : Nat → Nat} (hX : TrX L p dp) (hc : pm_ct M 16 3 = (L.length : Int)) (hL : SgAt M 16 0 L) :
    pm_E (d + 3) 97 [(2, ((76 : Nat) : Int)), (2, ((16 : Nat) : Int)), (2, ((24 : Nat) : Int))] M mc ms (fun ρ M' => ρ = none ∧ Lay M' ∧ Fr [77, 78, 79, 80, 81, 82, 83, 84, 85, 86] M M' ∧ TdAt M' 76 T L p dp) := by
  have cp := c_Nodes_copyFrom2 (d := d + 1) (mc := 0) (ms := 0) lay hX.1.2.1 hc hL
  show Wp (d + 3) 97 0 [(2, ((76 : Nat) : Int)), (2, ((16 : Nat) : Int)), (2, ((24 : Nat) : Int))] [] M mc ms _
  refine g_aload_n lk_97_0 rfl ?_
  refine g_getfield lk_97_1 rfl (lay.on (by decide) rfl) (v := ((77 : Nat) : Int)) (lay.rf rfl) ?_
  refine g_aload_n lk_97_4 rfl ?_
  refine g_virtual (p := 77) (Qc := _) lk_97_5 rfl (Nat.le_of_ble_eq_true rfl) rfl rfl (lay.on (by decide) rfl) (Nat.le_of_ble_eq_true rfl) (Nat.le_of_ble_eq_true rfl) (Nat.zero_le _) (Nat.zero_le _) (cp) ?_
  rintro _ K1 ⟨rfl, lay1, f1, c1, n1⟩
  have fo := c_Told_follow2 (d := d) (mc := 0) (ms := 0) lay1 hT (hM.fr f1 (by decide) (by decide)) hX.1 hX.2.1 c1 n1
  show Wp _ 97 8 [(2, ((76 : Nat) : Int)), (2, ((16 : Nat) : Int)), (2, ((24 : Nat) : Int))] [] K1 _ _ _
  refine g_aload_n lk_97_8 rfl ?_
  refine g_aload_n lk_97_9 rfl ?_
  refine g_virtual (p := 76) (Qc := _) lk_97_10 rfl (Nat.le_of_ble_eq_true rfl) rfl rfl (lay1.on (by decide) rfl) (Nat.le_of_ble_eq_true rfl) (Nat.le_of_ble_eq_true rfl) (Nat.zero_le _) (Nat.zero_le _) (fo) ?_
  rintro _ K2 ⟨rfl, lay2, f2, cm2⟩
  show Wp _ 97 13 [(2, ((76 : Nat) : Int)), (2, ((16 : Nat) : Int)), (2, ((24 : Nat) : Int))] [] K2 _ _ _
  refine g_return lk_97_13 ?_
  refine ⟨rfl, lay2, (f1.mono (fun a q => by simp at q ⊢; omega)).trans (f2.mono (fun a q => by simp at q ⊢; omega)), hX, ?_, ?_, cm2⟩
  · show pm_ct K2 77 3 = _
    rw [f2.ct (by decide)]; exact c1
  · show NdL K2 78 79 80 L
    unfold NdL
    rw [f2.ct (by decide), f2.ct (by decide), f2.ct (by decide)]
    exact n1
theorem c_Nodes_copyFrom3 {d mc ms : Nat} {M : pm_M} (lay : Lay M) {L : List Nd} (l31 : L.length ≤ 31) (hc : pm_ct M 20 3 = (L.length : Int)) (hL : SgAt M 20 0 L) :
    pm_E (d + 1) 37 [(2, ((88 : Nat) : Int)), (2, ((20 : Nat) : Int))] M mc ms (fun ρ M' => ρ = none ∧ Lay M' ∧ Fr [88, 89, 90, 91] M M' ∧ pm_ct M' 88 3 = (L.length : Int) ∧ NdL M' 89 90 91 L) := by
  obtain ⟨Q, hQ⟩ : ∃ Q : pm_Q, Q = (fun ρ M' => ρ = none ∧ Lay M' ∧ Fr [88, 89, 90, 91] M M' ∧ pm_ct M' 88 3 = (L.length : Int) ∧ NdL M' 89 90 91 L) := ⟨_, rfl⟩
  rw [← hQ]
  obtain ⟨l, hl⟩ : ∃ l, l = L.length := ⟨_, rfl⟩
  rw [← hl] at l31 hc
  show Wp (d + 1) 37 0 [(2, ((88 : Nat) : Int)), (2, ((20 : Nat) : Int)), (9, 0)] [] M mc ms Q
  have loop : ∀ (k i : Nat) (K : pm_M), i + k = l → Lay K → Fr [88, 89, 90, 91] M K → pm_ct K 88 3 = (l : Int) → (∀ j, j < i → pm_ct K 89 j = ((ndA L j).1 : Int) ∧ pm_ct K 90 j = ((ndA L j).2.1 : Int) ∧ pm_ct K 91 j = (ndA L j).2.2) → Wp (d + 1) 37 18 [(2, ((88 : Nat) : Int)), (2, ((20 : Nat) : Int)), (0, (i : Int))] [] K mc ms Q := by
    intro k
    induction k with
    | zero =>
      intro i K hi layK fK ct hK
      refine g_iload_n lk_37_18 rfl ?_
      refine g_aload_n lk_37_19 rfl ?_
      refine m_getfield (u := []) (M := K) lk_37_20 rfl (layK.on (by decide) rfl) (v := (l : Int)) ct ?_
      refine g_icmp (t := 68) lk_37_23 rfl (by first | (unfold pm_inI; omega) | exact pm_and_in _ _ | exact pm_shr_in _ _ | exact pm_or_in _ _ | exact pm_xor_in _ _ | exact pm_shl_in _ _ | exact pm_cmp_in _ _ | exact pm_b8_in _ | (unfold pm_inI; split <;> omega)) (by first | (unfold pm_inI; omega) | exact pm_and_in _ _ | exact pm_shr_in _ _ | exact pm_or_in _ _ | exact pm_xor_in _ _ | exact pm_shl_in _ _ | exact pm_cmp_in _ _ | exact pm_b8_in _ | (unfold pm_inI; split <;> omega)) (fun h1 => ?_) (fun h1 => ?_)
      · replace h1 : (l : Int) ≤ (i : Int) := h1
        refine g_return lk_37_68 ?_
        rw [hQ]
        refine ⟨rfl, layK, fK, by rw [← hl]; exact ct, fun j x hx => ?_⟩
        have jl := (List.getElem?_eq_some_iff.mp hx).1
        have ex := ndA_get jl
        rw [hx] at ex
        rw [Option.some.inj ex]
        exact hK j (by omega)
      · replace h1 : ¬ ((l : Int) ≤ (i : Int)) := h1
        omega
    | succ k ih =>
      intro i K hi layK fK ct hK
      have gt := hL i _ (ndA_get (L := L) (k := i) (by omega))
      rw [Nat.zero_add] at gt
      obtain ⟨y1, y2, y3⟩ := gt
      have z1 : pm_ct K 21 i = ((ndA L i).1 : Int) := by rw [fK.ct (by decide)]; exact y1
      have z2 : pm_ct K 22 i = ((ndA L i).2.1 : Int) := by rw [fK.ct (by decide)]; exact y2
      have z3 : pm_ct K 23 i = (ndA L i).2.2 := by rw [fK.ct (by decide)]; exact y3
      obtain ⟨x1, hx1⟩ : ∃ x, x = (ndA L i).1 := ⟨_, rfl⟩
      obtain ⟨x2, hx2⟩ : ∃ x, x = (ndA L i).2.1 := ⟨_, rfl⟩
      obtain ⟨x3, hx3⟩ : ∃ x, x = (ndA L i).2.2 := ⟨_, rfl⟩
      rw [← hx1] at z1
      rw [← hx2] at z2
      rw [← hx3] at z3
      refine g_iload_n lk_37_18 rfl ?_
      refine g_aload_n lk_37_19 rfl ?_
      refine m_getfield (u := []) (M := K) lk_37_20 rfl (layK.on (by decide) rfl) (v := (l : Int)) ct ?_
      refine g_icmp (t := 68) lk_37_23 rfl (by first | (unfold pm_inI; omega) | exact pm_and_in _ _ | exact pm_shr_in _ _ | exact pm_or_in _ _ | exact pm_xor_in _ _ | exact pm_shl_in _ _ | exact pm_cmp_in _ _ | exact pm_b8_in _ | (unfold pm_inI; split <;> omega)) (by first | (unfold pm_inI; omega) | exact pm_and_in _ _ | exact pm_shr_in _ _ | exact pm_or_in _ _ | exact pm_xor_in _ _ | exact pm_shl_in _ _ | exact pm_cmp_in _ _ | exact pm_b8_in _ | (unfold pm_inI; split <;> omega)) (fun h1 => ?_) (fun h1 => ?_)
      · replace h1 : (l : Int) ≤ (i : Int) := h1
        omega
      · replace h1 : ¬ ((l : Int) ≤ (i : Int)) := h1
        refine g_aload_n lk_37_26 rfl ?_
        refine g_getfield lk_37_27 rfl (layK.on (by decide) rfl) (v := ((89 : Nat) : Int)) (layK.rf rfl) ?_
        refine g_iload_n lk_37_30 rfl ?_
        refine g_aload_n lk_37_31 rfl ?_
        refine g_getfield lk_37_32 rfl (layK.on (by decide) rfl) (v := ((21 : Nat) : Int)) (layK.rf rfl) ?_
        refine g_iload_n lk_37_35 rfl ?_
        refine m_iaload (u := []) (M := K) lk_37_36 (layK.ay (by decide) rfl) (by omega) (j := i) (by omega) (v := (x1 : Int)) z1 ?_
        have lay2 : Lay (Mu [(89, pm_upd (pm_ct K 89) i (x1 : Int))] K) := layK.muA (l := []) (a := 89) (f := pm_upd (pm_ct K 89) i (x1 : Int)) rfl rfl
        refine m_iastore (u := []) (u' := [(89, pm_upd (pm_ct K 89) i (x1 : Int))]) (M := K) lk_37_37 (layK.ay (by decide) rfl) (by omega) (j := i) (by omega) rfl ?_
        refine g_aload_n lk_37_38 rfl ?_
        refine g_getfield lk_37_39 rfl (lay2.on (by decide) rfl) (v := ((90 : Nat) : Int)) (lay2.rf rfl) ?_
        refine g_iload_n lk_37_42 rfl ?_
        refine g_aload_n lk_37_43 rfl ?_
        refine g_getfield lk_37_44 rfl (lay2.on (by decide) rfl) (v := ((22 : Nat) : Int)) (lay2.rf rfl) ?_
        refine g_iload_n lk_37_47 rfl ?_
        refine m_iaload (u := [(89, pm_upd (pm_ct K 89) i (x1 : Int))]) (M := K) lk_37_48 (lay2.ay (by decide) rfl) (by omega) (j := i) (by omega) (v := (x2 : Int)) z2 ?_
        have lay3 : Lay (Mu [(89, pm_upd (pm_ct K 89) i (x1 : Int)), (90, pm_upd (pm_ct K 90) i (x2 : Int))] K) := lay2.muA (l := [(89, pm_upd (pm_ct K 89) i (x1 : Int))]) (a := 90) (f := pm_upd (pm_ct K 90) i (x2 : Int)) rfl rfl
        refine m_iastore (u := [(89, pm_upd (pm_ct K 89) i (x1 : Int))]) (u' := [(89, pm_upd (pm_ct K 89) i (x1 : Int)), (90, pm_upd (pm_ct K 90) i (x2 : Int))]) (M := K) lk_37_49 (lay2.ay (by decide) rfl) (by omega) (j := i) (by omega) rfl ?_
        refine g_aload_n lk_37_50 rfl ?_
        refine g_getfield lk_37_51 rfl (lay3.on (by decide) rfl) (v := ((91 : Nat) : Int)) (lay3.rf rfl) ?_
        refine g_iload_n lk_37_54 rfl ?_
        refine g_aload_n lk_37_55 rfl ?_
        refine g_getfield lk_37_56 rfl (lay3.on (by decide) rfl) (v := ((23 : Nat) : Int)) (lay3.rf rfl) ?_
        refine g_iload_n lk_37_59 rfl ?_
        refine m_iaload (u := [(89, pm_upd (pm_ct K 89) i (x1 : Int)), (90, pm_upd (pm_ct K 90) i (x2 : Int))]) (M := K) lk_37_60 (lay3.ay (by decide) rfl) (by omega) (j := i) (by omega) (v := x3) z3 ?_
        have lay4 : Lay (Mu [(89, pm_upd (pm_ct K 89) i (x1 : Int)), (90, pm_upd (pm_ct K 90) i (x2 : Int)), (91, pm_upd (pm_ct K 91) i x3)] K) := lay3.muA (l := [(89, pm_upd (pm_ct K 89) i (x1 : Int)), (90, pm_upd (pm_ct K 90) i (x2 : Int))]) (a := 91) (f := pm_upd (pm_ct K 91) i x3) rfl rfl
        refine m_iastore (u := [(89, pm_upd (pm_ct K 89) i (x1 : Int)), (90, pm_upd (pm_ct K 90) i (x2 : Int))]) (u' := [(89, pm_upd (pm_ct K 89) i (x1 : Int)), (90, pm_upd (pm_ct K 90) i (x2 : Int)), (91, pm_upd (pm_ct K 91) i x3)]) (M := K) lk_37_61 (lay3.ay (by decide) rfl) (by omega) (j := i) (by omega) rfl ?_
        refine g_iinc (ls' := [(2, ((88 : Nat) : Int)), (2, ((20 : Nat) : Int)), (0, ((i : Int) + 1))]) lk_37_62 rfl rfl rfl ?_
        refine g_goto (t := 18) lk_37_65 rfl ?_
        refine ih (i + 1) (Mu [(89, pm_upd (pm_ct K 89) i (x1 : Int)), (90, pm_upd (pm_ct K 90) i (x2 : Int)), (91, pm_upd (pm_ct K 91) i x3)] K) (by omega) lay4 (fK.trans (Fr.mu _ _ rfl)) (by rw [Mu_ct]; exact ct) (fun j hj => ?_)
        rw [Mu_ct, Mu_ct, Mu_ct]
        show pm_upd (pm_ct K 89) i (x1 : Int) j = _ ∧ pm_upd (pm_ct K 90) i (x2 : Int) j = _ ∧ pm_upd (pm_ct K 91) i x3 j = _
        by_cases e : j = i
        · rw [e, pm_upd_eq, pm_upd_eq, pm_upd_eq, hx1, hx2, hx3]; exact ⟨rfl, rfl, rfl⟩
        · rw [pm_upd_ne e, pm_upd_ne e, pm_upd_ne e]; exact hK j (by omega)
  have em : min (l : Int) 31 = (l : Int) := by omega
  refine g_aload_n lk_37_0 rfl ?_
  refine g_aload_n lk_37_1 rfl ?_
  refine m_getfield (u := []) (M := M) lk_37_2 rfl (lay.on (by decide) rfl) (v := (l : Int)) hc ?_
  refine g_aload_n lk_37_5 rfl ?_
  refine g_getfield lk_37_6 rfl (lay.on (by decide) rfl) (v := ((89 : Nat) : Int)) (lay.rf rfl) ?_
  refine g_arraylength (n := 31) lk_37_9 (by decide) (lay.ay (by decide) rfl) ?_
  refine g_mmin lk_37_10 (by first | (unfold pm_inI; omega) | exact pm_and_in _ _ | exact pm_shr_in _ _ | exact pm_or_in _ _ | exact pm_xor_in _ _ | exact pm_shl_in _ _ | exact pm_cmp_in _ _ | exact pm_b8_in _ | (unfold pm_inI; split <;> omega)) (by first | (unfold pm_inI; omega) | exact pm_and_in _ _ | exact pm_shr_in _ _ | exact pm_or_in _ _ | exact pm_xor_in _ _ | exact pm_shl_in _ _ | exact pm_cmp_in _ _ | exact pm_b8_in _ | (unfold pm_inI; split <;> omega)) (Nat.le_of_ble_eq_true rfl) ?_
  refine g_top (z := (min (l : Int) 31)) (z' := (l : Int)) (em) ?_
  have lay1 : Lay (Mu [(88, pm_upd (pm_ct M 88) 3 (l : Int))] M) := lay.muF (l := []) (a := 88) (k := 3) (z := (l : Int)) rfl rfl
  refine m_putfield (u := []) (u' := [(88, pm_upd (pm_ct M 88) 3 (l : Int))]) (M := M) lk_37_13 rfl (lay.on (by decide) rfl) (fun h => absurd h (by decide)) rfl ?_
  refine g_iconst lk_37_16 ?_
  refine g_istore_n (ls' := [(2, ((88 : Nat) : Int)), (2, ((20 : Nat) : Int)), (0, 0)]) lk_37_17 rfl rfl ?_
  exact loop l 0 (Mu [(88, pm_upd (pm_ct M 88) 3 (l : Int))] M) (by omega) lay1 (Fr.mu _ _ rfl) (by rw [Mu_ct]; rfl) (fun j hj => by omega)
theorem c_Told_take3 {d mc ms : Nat} {M : pm_M} (lay : Lay M) {T : Tab} (hT : TabOK T) (hM : TbAt M 24 T) {L : List Nd} {p dp : Nat → Nat} (hX : TrX L p dp) (hc : pm_ct M 20 3 = (L.length : Int)) (hL : SgAt M 20 0 L) :
    pm_E (d + 3) 97 [(2, ((87 : Nat) : Int)), (2, ((20 : Nat) : Int)), (2, ((24 : Nat) : Int))] M mc ms (fun ρ M' => ρ = none ∧ Lay M' ∧ Fr [88, 89, 90, 91, 92, 93, 94, 95, 96, 97] M M' ∧ TdAt M' 87 T L p dp) := by
  have cp := c_Nodes_copyFrom3 (d := d + 1) (mc := 0) (ms := 0) lay hX.1.2.1 hc hL
  show Wp (d + 3) 97 0 [(2, ((87 : Nat) : Int)), (2, ((20 : Nat) : Int)), (2, ((24 : Nat) : Int))] [] M mc ms _
  refine g_aload_n lk_97_0 rfl ?_
  refine g_getfield lk_97_1 rfl (lay.on (by decide) rfl) (v := ((88 : Nat) : Int)) (lay.rf rfl) ?_
  refine g_aload_n lk_97_4 rfl ?_
  refine g_virtual (p := 88) (Qc := _) lk_97_5 rfl (Nat.le_of_ble_eq_true rfl) rfl rfl (lay.on (by decide) rfl) (Nat.le_of_ble_eq_true rfl) (Nat.le_of_ble_eq_true rfl) (Nat.zero_le _) (Nat.zero_le _) (cp) ?_
  rintro _ K1 ⟨rfl, lay1, f1, c1, n1⟩
  have fo := c_Told_follow3 (d := d) (mc := 0) (ms := 0) lay1 hT (hM.fr f1 (by decide) (by decide)) hX.1 hX.2.1 c1 n1
  show Wp _ 97 8 [(2, ((87 : Nat) : Int)), (2, ((20 : Nat) : Int)), (2, ((24 : Nat) : Int))] [] K1 _ _ _
  refine g_aload_n lk_97_8 rfl ?_
  refine g_aload_n lk_97_9 rfl ?_
  refine g_virtual (p := 87) (Qc := _) lk_97_10 rfl (Nat.le_of_ble_eq_true rfl) rfl rfl (lay1.on (by decide) rfl) (Nat.le_of_ble_eq_true rfl) (Nat.le_of_ble_eq_true rfl) (Nat.zero_le _) (Nat.zero_le _) (fo) ?_
  rintro _ K2 ⟨rfl, lay2, f2, cm2⟩
  show Wp _ 97 13 [(2, ((87 : Nat) : Int)), (2, ((20 : Nat) : Int)), (2, ((24 : Nat) : Int))] [] K2 _ _ _
  refine g_return lk_97_13 ?_
  refine ⟨rfl, lay2, (f1.mono (fun a q => by simp at q ⊢; omega)).trans (f2.mono (fun a q => by simp at q ⊢; omega)), hX, ?_, ?_, cm2⟩
  · show pm_ct K2 88 3 = _
    rw [f2.ct (by decide)]; exact c1
  · show NdL K2 89 90 91 L
    unfold NdL
    rw [f2.ct (by decide), f2.ct (by decide), f2.ct (by decide)]
    exact n1
theorem c_Told_take {d mc ms : Nat} {M : pm_M} (lay : Lay M) {T : Tab} (hT : TabOK T) (hM : TbAt M 24 T) {t : Nat} (t4 : t < 4) {L : List Nd} {p dp : Nat → Nat} (hX : TrX L p dp) (hc : pm_ct M (8 + 4 * t) 3 = (L.length : Int)) (hL : SgAt M (8 + 4 * t) 0 L) :
    pm_E (d + 3) 97 [(2, ((54 + 11 * t : Nat) : Int)), (2, ((8 + 4 * t : Nat) : Int)), (2, ((24 : Nat) : Int))] M mc ms (fun ρ M' => ρ = none ∧ Lay M' ∧ Fr [55 + 11 * t, 56 + 11 * t, 57 + 11 * t, 58 + 11 * t, 59 + 11 * t, 60 + 11 * t, 61 + 11 * t, 62 + 11 * t, 63 + 11 * t, 64 + 11 * t] M M' ∧ TdAt M' (54 + 11 * t) T L p dp) := by
  rcases (by omega : t = 0 ∨ t = 1 ∨ t = 2 ∨ t = 3) with e | e | e | e
  · subst e; exact c_Told_take0 lay hT hM hX hc hL
  · subst e; exact c_Told_take1 lay hT hM hX hc hL
  · subst e; exact c_Told_take2 lay hT hM hX hc hL
  · subst e; exact c_Told_take3 lay hT hM hX hc hL
theorem rt_l {M : pm_M} (lay : Lay M) {t : Nat} (t4 : t < 4) : pm_ct M 6 t = ((8 + 4 * t : Nat) : Int) ∧ pm_on M (8 + 4 * t) 4 := by
  rcases (by omega : t = 0 ∨ t = 1 ∨ t = 2 ∨ t = 3) with e | e | e | e
  · subst e; exact ⟨lay.rf rfl, lay.on (by decide) rfl⟩
  · subst e; exact ⟨lay.rf rfl, lay.on (by decide) rfl⟩
  · subst e; exact ⟨lay.rf rfl, lay.on (by decide) rfl⟩
  · subst e; exact ⟨lay.rf rfl, lay.on (by decide) rfl⟩
def nds (x : Nt) : List Nd := x.2.map (fun y => y.1)
def ntA (Ts : List Nt) (t : Nat) : Nt := Ts.getD t ([], [])
def tsN (Ts : List Nt) : List (List Nd) := Ts.map nds
def psN (Ts : List Nt) (t : Nat) : Nat → Nat := neP (ntA Ts t).2
def dpN (Ts : List Nt) (t : Nat) : Nat → Nat := neD (ntA Ts t).2
theorem ntA_get {Ts : List Nt} {t : Nat} (h : t < Ts.length) : Ts[t]? = some (ntA Ts t) := by
  unfold ntA
  rw [List.getD_eq_getElem?_getD, List.getElem?_eq_getElem h]; rfl
theorem tsN_getD (Ts : List Nt) (t : Nat) : (tsN Ts).getD t [] = nds (ntA Ts t) := by
  unfold tsN ntA
  rw [List.getD_eq_getElem?_getD, List.getD_eq_getElem?_getD, List.getElem?_map]
  cases Ts[t]? <;> rfl
theorem TrsX.fr {S : List Nat} {M N : pm_M} {Ts : List Nt} (h : TrsX M Ts) (l4 : Ts.length ≤ 4) (k : Fr S M N) (h5 : pm_ct N 2 5 = pm_ct M 2 5) (hS : ∀ a, 7 ≤ a → a ≤ 23 → a ∉ S) : TrsX N Ts := by
  refine ⟨by rw [h5]; exact h.1, fun i x hx => ?_⟩
  have il := (List.getElem?_eq_some_iff.mp hx).1
  have g := h.2 i x hx
  unfold SgAt at g ⊢
  rw [k.ct (hS _ (by omega) (by omega)), k.ct (hS _ (by omega) (by omega)), k.ct (hS (8 + 4 * i + 1) (by omega) (by omega)), k.ct (hS (8 + 4 * i + 2) (by omega) (by omega)), k.ct (hS (8 + 4 * i + 3) (by omega) (by omega))]
  exact g
def sRead : List Nat := [1, 2, 4, 5, 7, 8, 9, 10, 11, 12, 13, 14, 15, 16, 17, 18, 19, 20, 21, 22, 23, 24, 25] ++ (List.range 44).map (fun i => i + 54)
def sText : List Nat := [44, 47, 51, 98, 104, 110] ++ sRead
theorem sRead_td {a : Nat} (h1 : 54 ≤ a) (h2 : a ≤ 97) : a ∈ sRead := List.mem_append_right _ (List.mem_map.mpr ⟨a - 54, List.mem_range.mpr (by omega), by omega⟩)
/-- what the class's state is after a text -/
def TxX (ρ : Option pm_V) (M' : pm_M) (T : Tab) (Ts : List (List Nd)) (ps dps : Nat → Nat → Nat) (na : Nat) (aa : Nat → Int) (r : Sum (Nat × Nat) (Tab × List Nt)) : Prop := match r with
  | .inl e => ρ = some (0, -1) ∧ FtX M' e ∧ StX M' T Ts ps dps na aa
  | .inr x => ρ = some (0, (x.2.length : Int)) ∧ (pm_ct M' 2 6 = 0 ∧ pm_ct M' 2 7 = -1) ∧ StX M' x.1 (tsN x.2) (psN x.2) (dpN x.2) 0 aa
set_option maxHeartbeats 4000000 in
theorem c_X_text {d mc ms n : Nat} {ch : Nat → Nat} {M : pm_M} {T : Tab} {Ts : List (List Nd)} {ps dps : Nat → Nat → Nat} {na : Nat} {aa : Nat → Int} (hS : StX M T Ts ps dps na aa) (hTc : TcX M n ch) :
    pm_E (d + 15) 121 [(2, ((1 : Nat) : Int))] M mc ms (fun ρ M' => Fr sText M M' ∧ pm_ct M' 2 4 = 0 ∧ TxX ρ M' T Ts ps dps na aa (pAll ch n)) := by
  obtain ⟨Q, hQ⟩ : ∃ Q : pm_Q, Q = (fun ρ M' => Fr sText M M' ∧ pm_ct M' 2 4 = 0 ∧ TxX ρ M' T Ts ps dps na aa (pAll ch n)) := ⟨_, rfl⟩
  rw [← hQ]
  obtain ⟨lay, hM, hTs, hAc, hCh⟩ := hS
  have m0 := lay.1
  have n5 := hTc.1
  have ra := c_Reader_readAll (d := d) (mc := 0) (ms := 0) lay hTc
  show Wp (d + 15) 121 0 [(2, ((1 : Nat) : Int)), (9, 0), (9, 0)] [] M mc ms Q
  cases hp : pAll ch n with
  | inl e =>
    rw [hp] at ra
    refine g_aload_n lk_121_0 rfl ?_
    refine g_getfield lk_121_1 rfl (lay.on (by decide) rfl) (v := ((2 : Nat) : Int)) (lay.rf rfl) ?_
    refine g_virtual (p := 2) (Qc := _) lk_121_4 rfl (Nat.le_of_ble_eq_true rfl) rfl rfl (lay.on (by decide) rfl) (Nat.le_of_ble_eq_true rfl) (Nat.le_of_ble_eq_true rfl) (Nat.zero_le _) (Nat.zero_le _) (ra) ?_
    rintro _ K1 ⟨lay1, f1, rfl, ft1⟩
    show Wp _ 121 7 [(2, ((1 : Nat) : Int)), (9, 0), (9, 0)] [(0, 0)] K1 _ _ _
    refine g_istore_n (ls' := [(2, ((1 : Nat) : Int)), (0, 0), (9, 0)]) lk_121_7 rfl rfl ?_
    refine g_aload_n lk_121_8 rfl ?_
    refine g_getfield lk_121_9 rfl (lay1.on (by decide) rfl) (v := ((2 : Nat) : Int)) (lay1.rf rfl) ?_
    refine g_iconst lk_121_12 ?_
    have lay1 : Lay (Mu [(2, pm_upd (pm_ct K1 2) 4 0)] K1) := lay1.muF (l := []) (a := 2) (k := 4) (z := 0) rfl rfl
    refine m_putfield (u := []) (u' := [(2, pm_upd (pm_ct K1 2) 4 0)]) (M := K1) lk_121_13 rfl (lay1.on (by decide) rfl) (fun h => absurd h (by decide)) rfl ?_
    refine g_iload_n lk_121_16 rfl ?_
    refine g_if (t := 22) lk_121_17 rfl (by first | (unfold pm_inI; omega) | exact pm_and_in _ _ | exact pm_shr_in _ _ | exact pm_or_in _ _ | exact pm_xor_in _ _ | exact pm_shl_in _ _ | exact pm_cmp_in _ _ | exact pm_b8_in _ | (unfold pm_inI; split <;> omega)) (fun h => absurd h (show ¬ (¬ (0 : Int) = (0 : Int)) by omega)) (fun _ => ?_)
    refine g_iconst lk_121_20 ?_
    refine g_ireturn lk_121_21 (fun h => absurd h (by decide)) ?_
    rw [hQ, hp]
    have fA : Fr sRead M (Mu [(2, pm_upd (pm_ct K1 2) 4 0)] K1) := (f1.1.mono (fun a q => List.mem_append_left _ (by simp at q ⊢; omega))).trans (Fr.mu (S := sRead) _ _ rfl)
    have k1 : pm_ct (Mu [(2, pm_upd (pm_ct K1 2) 4 0)] K1) 1 = pm_ct M 1 := by rw [Mu_ct]; exact f1.1.ct (by decide)
    have fT : Fr [2, 4, 5, 7, 8, 9, 10, 11, 12, 13, 14, 15, 16, 17, 18, 19, 20, 21, 22, 23] M (Mu [(2, pm_upd (pm_ct K1 2) 4 0)] K1) := f1.1.trans (Fr.mu _ _ rfl)
    refine ⟨fA.mono (fun a q => List.mem_append_right _ q), by rw [Mu_ct]; rfl, rfl, ⟨by rw [Mu_ct]; exact ft1.1, by rw [Mu_ct]; exact ft1.2⟩, lay1, hM.fr fT (by decide) (by decide), hTs.gr fT.gr m0 (by rw [k1]) (fun a x1 x2 q => by simp at q; omega), ?_, hCh.gr fT.gr m0 (by decide)⟩
    obtain ⟨c1, c2, c3⟩ := hAc
    exact ⟨c1, by rw [k1]; exact c2, fun i hi => by rw [fT.ct (by decide)]; exact c3 i hi⟩
  | inr y =>
    obtain ⟨T', Ts'⟩ := y
    rw [hp] at ra
    obtain ⟨okT, _, l4, okN⟩ := pAll_ok n5 hp
    obtain ⟨l, hl⟩ : ∃ l, l = Ts'.length := ⟨_, rfl⟩
    rw [← hl] at l4
    have loop : ∀ (k i : Nat) (K : pm_M), i + k = l → Lay K → Fr sRead M K → TbAt K 24 T' → TrsX K Ts' → pm_ct K 1 11 = (l : Int) → (pm_ct K 2 4 = 0 ∧ pm_ct K 2 6 = 0 ∧ pm_ct K 2 7 = -1) → (∀ t, t < i → TdAt K (54 + 11 * t) T' (nds (ntA Ts' t)) (psN Ts' t) (dpN Ts' t)) → Wp (d + 15) 121 49 [(2, ((1 : Nat) : Int)), (0, 1), (0, (i : Int))] [] K mc ms Q := by
      intro k
      induction k with
      | zero =>
        intro i K hi layK fK tb tr ct g2 td
        have e : i = l := by omega
        have chK := hCh.gr fK.gr m0 (by decide)
        refine g_iload_n lk_121_49 rfl ?_
        refine g_aload_n lk_121_50 rfl ?_
        refine m_getfield (u := []) (M := K) lk_121_51 rfl (layK.on (by decide) rfl) (v := (l : Int)) ct ?_
        refine g_icmp (t := 85) lk_121_54 rfl (by first | (unfold pm_inI; omega) | exact pm_and_in _ _ | exact pm_shr_in _ _ | exact pm_or_in _ _ | exact pm_xor_in _ _ | exact pm_shl_in _ _ | exact pm_cmp_in _ _ | exact pm_b8_in _ | (unfold pm_inI; split <;> omega)) (by first | (unfold pm_inI; omega) | exact pm_and_in _ _ | exact pm_shr_in _ _ | exact pm_or_in _ _ | exact pm_xor_in _ _ | exact pm_shl_in _ _ | exact pm_cmp_in _ _ | exact pm_b8_in _ | (unfold pm_inI; split <;> omega)) (fun h1 => ?_) (fun h1 => ?_)
        · replace h1 : (l : Int) ≤ (i : Int) := h1
          refine g_aload_n lk_121_85 rfl ?_
          refine g_iconst lk_121_86 ?_
          have lay2 : Lay (Mu [(1, pm_upd (pm_ct K 1) 12 0)] K) := layK.muF (l := []) (a := 1) (k := 12) (z := 0) rfl rfl
          refine m_putfield (u := []) (u' := [(1, pm_upd (pm_ct K 1) 12 0)]) (M := K) lk_121_87 rfl (layK.on (by decide) rfl) (fun h => absurd h (by decide)) rfl ?_
          refine g_aload_n lk_121_90 rfl ?_
          refine g_virtual (p := 1) (Qc := _) lk_121_91 rfl (Nat.le_of_ble_eq_true rfl) rfl rfl (lay2.on (by decide) rfl) (Nat.le_of_ble_eq_true rfl) (Nat.le_of_ble_eq_true rfl) (Nat.zero_le _) (Nat.zero_le _) (c_X_forget lay2 (chK.gr (Fr.mu (S := [1]) _ _ rfl).gr (by have := fK.1; omega) (by decide))) ?_
          rintro _ K1 ⟨rfl, lay1, f1, ch1⟩
          have r11 : pm_ct K1 1 11 = (l : Int) := by rw [f1.ct (by decide), Mu_ct]; exact ct
          show Wp _ 121 94 [(2, ((1 : Nat) : Int)), (0, 1), (0, (i : Int))] [] K1 _ _ _
          refine g_aload_n lk_121_94 rfl ?_
          refine m_getfield (u := []) (M := K1) lk_121_95 rfl (lay1.on (by decide) rfl) (v := (l : Int)) r11 ?_
          refine g_ireturn lk_121_98 (fun h => absurd h (by decide)) ?_
          rw [hQ, hp]
          have fA : Fr [1] K (Mu [(1, pm_upd (pm_ct K 1) 12 0)] K) := Fr.mu _ _ rfl
          have fB : Fr [1, 44, 47, 51, 98, 104, 110] K K1 := (fA.mono (fun a q => by simp at q ⊢; omega)).trans (f1.mono (fun a q => by simp at q ⊢; omega))
          refine ⟨(fK.mono (fun a q => List.mem_append_right _ q)).trans (fB.mono (fun a q => ?_)), by show pm_ct K1 2 4 = 0; rw [fB.ct (by decide)]; exact g2.1, by rw [hl], by show pm_ct K1 2 6 = 0 ∧ pm_ct K1 2 7 = -1; rw [fB.ct (by decide)]; exact g2.2, lay1, tb.fr fB (by decide) (by decide), ⟨?_, ?_, fun t ht => ?_⟩, ⟨Nat.zero_le _, ?_, fun i hi => absurd hi (Nat.not_lt_zero i)⟩, ch1 _⟩
          · simp at q
            rcases q with q | q
            · rw [q]; decide
            · exact List.mem_append_left _ (by simp; omega)
          · show (Ts'.map nds).length ≤ 4
            rw [List.length_map, ← hl]; exact l4
          · show _ = ((Ts'.map nds).length : Int)
            rw [List.length_map, ← hl]; exact r11
          · have ht' : t < (Ts'.map nds).length := ht
            rw [List.length_map, ← hl] at ht'
            rw [tsN_getD]
            exact (td t (by omega)).fr2 fB (fun j hj q => by simp at q; omega)
          · show pm_ct K1 1 12 = 0
            rw [f1.ct (by decide), Mu_ct]; rfl
        · replace h1 : ¬ ((l : Int) ≤ (i : Int)) := h1
          omega
      | succ k ih =>
        intro i K hi layK fK tb tr ct g2 td
        obtain ⟨u1, u2, _⟩ := td_l layK (t := i) (by omega)
        obtain ⟨u3, u4⟩ := rt_l layK (t := i) (by omega)
        have gi := ntA_get (Ts := Ts') (t := i) (by omega)
        obtain ⟨_, _, tx⟩ := okN (ntA Ts' i) (List.mem_of_getElem? gi)
        obtain ⟨_, _, r3, r4⟩ := tr.2 i _ gi
        have tk := c_Told_take (d := d + 11) (mc := 0) (ms := 0) layK okT tb (t := i) (by omega) (L := nds (ntA Ts' i)) tx (by rw [r3]; unfold nds; rw [List.length_map]) r4
        have fd := fun N' => ih (i + 1) N' (by omega)
        obtain ⟨P, hP⟩ : ∃ P, P = 54 + 11 * i := ⟨_, rfl⟩
        obtain ⟨S, hS'⟩ : ∃ S, S = 8 + 4 * i := ⟨_, rfl⟩
        rw [← hP] at u1 u2 tk
        rw [← hS'] at u3 u4 tk
        clear ih
        refine g_iload_n lk_121_49 rfl ?_
        refine g_aload_n lk_121_50 rfl ?_
        refine m_getfield (u := []) (M := K) lk_121_51 rfl (layK.on (by decide) rfl) (v := (l : Int)) ct ?_
        refine g_icmp (t := 85) lk_121_54 rfl (by first | (unfold pm_inI; omega) | exact pm_and_in _ _ | exact pm_shr_in _ _ | exact pm_or_in _ _ | exact pm_xor_in _ _ | exact pm_shl_in _ _ | exact pm_cmp_in _ _ | exact pm_b8_in _ | (unfold pm_inI; split <;> omega)) (by first | (unfold pm_inI; omega) | exact pm_and_in _ _ | exact pm_shr_in _ _ | exact pm_or_in _ _ | exact pm_xor_in _ _ | exact pm_shl_in _ _ | exact pm_cmp_in _ _ | exact pm_b8_in _ | (unfold pm_inI; split <;> omega)) (fun h1 => ?_) (fun h1 => ?_)
        · replace h1 : (l : Int) ≤ (i : Int) := h1
          omega
        · replace h1 : ¬ ((l : Int) ≤ (i : Int)) := h1
          refine g_aload_n lk_121_57 rfl ?_
          refine g_getfield lk_121_58 rfl (layK.on (by decide) rfl) (v := ((26 : Nat) : Int)) (layK.rf rfl) ?_
          refine g_iload_n lk_121_61 rfl ?_
          refine g_aaload lk_121_62 (by decide) (layK.ay (by decide) rfl) (by omega) (v := ((P : Nat) : Int)) u2 ?_
          refine g_aload_n lk_121_63 rfl ?_
          refine g_getfield lk_121_64 rfl (layK.on (by decide) rfl) (v := ((2 : Nat) : Int)) (layK.rf rfl) ?_
          refine g_getfield lk_121_67 rfl (layK.on (by decide) rfl) (v := ((6 : Nat) : Int)) (layK.rf rfl) ?_
          refine g_iload_n lk_121_70 rfl ?_
          refine g_aaload lk_121_71 (by decide) (layK.ay (by decide) rfl) (by omega) (v := ((S : Nat) : Int)) u3 ?_
          refine g_aload_n lk_121_72 rfl ?_
          refine g_getfield lk_121_73 rfl (layK.on (by decide) rfl) (v := ((24 : Nat) : Int)) (layK.rf rfl) ?_
          refine g_virtual (p := P) (Qc := _) lk_121_76 rfl (Nat.le_of_ble_eq_true rfl) rfl rfl u1 (Nat.le_of_ble_eq_true rfl) (Nat.le_of_ble_eq_true rfl) (Nat.zero_le _) (Nat.zero_le _) (tk) ?_
          rintro _ K1 ⟨rfl, lay1, f1, td1⟩
          show Wp _ 121 79 [(2, ((1 : Nat) : Int)), (0, 1), (0, (i : Int))] [] K1 _ _ _
          refine g_iinc (ls' := [(2, ((1 : Nat) : Int)), (0, 1), (0, ((i : Int) + 1))]) lk_121_79 rfl rfl rfl ?_
          refine g_goto (t := 49) lk_121_82 rfl ?_
          have f11 : ∀ a, a ≤ 53 → pm_ct K1 a = pm_ct K a := fun a ha => f1.ct (fun q => by simp at q; omega)
          refine fd K1 lay1 (fK.trans (f1.mono (fun a q => sRead_td (by simp at q; omega) (by simp at q; omega)))) (tb.fr f1 (fun q => by simp at q; omega) (fun q => by simp at q; omega)) (tr.fr (by omega) f1 (by rw [f11 2 (by omega)]) (fun a h1 h2 q => by simp at q; omega)) (by rw [f11 1 (by omega)]; exact ct) (by rw [f11 2 (by omega)]; exact g2) (fun t ht => ?_)
          by_cases e : t = i
          · rw [e, ← hP]; exact td1
          · exact (td t (by omega)).fr2 f1 (fun j hj q => by simp at q; omega)
    have k22 : ∀ K : pm_M, Lay K → Fr sRead M K → TbAt K 4 T' → TrsX K Ts' → (pm_ct K 2 4 = 0 ∧ pm_ct K 2 6 = 0 ∧ pm_ct K 2 7 = -1) → Wp (d + 15) 121 22 [(2, ((1 : Nat) : Int)), (0, 1), (9, 0)] [] K mc ms Q := by
      intro K layK fK tb tr g2
      have cp := c_Table_copyFrom (d := d + 14) (mc := 0) (ms := 0) layK tb okT
      have r5 := tr.1
      rw [← hl] at r5
      refine g_aload_n lk_121_22 rfl ?_
      refine g_getfield lk_121_23 rfl (layK.on (by decide) rfl) (v := ((24 : Nat) : Int)) (layK.rf rfl) ?_
      refine g_aload_n lk_121_26 rfl ?_
      refine g_getfield lk_121_27 rfl (layK.on (by decide) rfl) (v := ((2 : Nat) : Int)) (layK.rf rfl) ?_
      refine g_getfield lk_121_30 rfl (layK.on (by decide) rfl) (v := ((4 : Nat) : Int)) (layK.rf rfl) ?_
      refine g_virtual (p := 24) (Qc := _) lk_121_33 rfl (Nat.le_of_ble_eq_true rfl) rfl rfl (layK.on (by decide) rfl) (Nat.le_of_ble_eq_true rfl) (Nat.le_of_ble_eq_true rfl) (Nat.zero_le _) (Nat.zero_le _) (cp) ?_
      rintro _ K1 ⟨rfl, lay1, f1, tb1⟩
      have s5 : pm_ct K1 2 5 = (l : Int) := by rw [f1.ct (by decide)]; exact r5
      show Wp _ 121 36 [(2, ((1 : Nat) : Int)), (0, 1), (9, 0)] [] K1 _ _ _
      refine g_aload_n lk_121_36 rfl ?_
      refine g_aload_n lk_121_37 rfl ?_
      refine g_getfield lk_121_38 rfl (lay1.on (by decide) rfl) (v := ((2 : Nat) : Int)) (lay1.rf rfl) ?_
      refine m_getfield (u := []) (M := K1) lk_121_41 rfl (lay1.on (by decide) rfl) (v := (l : Int)) s5 ?_
      have lay1 : Lay (Mu [(1, pm_upd (pm_ct K1 1) 11 (l : Int))] K1) := lay1.muF (l := []) (a := 1) (k := 11) (z := (l : Int)) rfl rfl
      refine m_putfield (u := []) (u' := [(1, pm_upd (pm_ct K1 1) 11 (l : Int))]) (M := K1) lk_121_44 rfl (lay1.on (by decide) rfl) (fun h => absurd h (by decide)) rfl ?_
      refine g_iconst lk_121_47 ?_
      refine g_istore_n (ls' := [(2, ((1 : Nat) : Int)), (0, 1), (0, 0)]) lk_121_48 rfl rfl ?_
      have fA : Fr [1] K1 (Mu [(1, pm_upd (pm_ct K1 1) 11 (l : Int))] K1) := Fr.mu _ _ rfl
      have fB : Fr [1, 24, 25] K (Mu [(1, pm_upd (pm_ct K1 1) 11 (l : Int))] K1) := (f1.mono (fun a q => by simp at q ⊢; omega)).trans (fA.mono (fun a q => by simp at q ⊢; omega))
      refine loop l 0 (Mu [(1, pm_upd (pm_ct K1 1) 11 (l : Int))] K1) (by omega) lay1 (fK.trans (fB.mono (fun a q => List.mem_append_left _ (by simp at q ⊢; omega)))) (tb1.fr fA (by decide) (by decide)) (tr.fr (by omega) fB (by rw [fB.ct (by decide)]) (fun a h1 h2 q => by simp at q; omega)) (by rw [Mu_ct]; rfl) (by rw [fB.ct (by decide)]; exact g2) (fun t ht => absurd ht (Nat.not_lt_zero t))
    refine g_aload_n lk_121_0 rfl ?_
    refine g_getfield lk_121_1 rfl (lay.on (by decide) rfl) (v := ((2 : Nat) : Int)) (lay.rf rfl) ?_
    refine g_virtual (p := 2) (Qc := _) lk_121_4 rfl (Nat.le_of_ble_eq_true rfl) rfl rfl (lay.on (by decide) rfl) (Nat.le_of_ble_eq_true rfl) (Nat.le_of_ble_eq_true rfl) (Nat.zero_le _) (Nat.zero_le _) (ra) ?_
    rintro _ K1 ⟨lay1, f1, rfl, tb1, tr1, c6, c7⟩
    show Wp _ 121 7 [(2, ((1 : Nat) : Int)), (9, 0), (9, 0)] [(0, 1)] K1 _ _ _
    refine g_istore_n (ls' := [(2, ((1 : Nat) : Int)), (0, 1), (9, 0)]) lk_121_7 rfl rfl ?_
    refine g_aload_n lk_121_8 rfl ?_
    refine g_getfield lk_121_9 rfl (lay1.on (by decide) rfl) (v := ((2 : Nat) : Int)) (lay1.rf rfl) ?_
    refine g_iconst lk_121_12 ?_
    have lay1 : Lay (Mu [(2, pm_upd (pm_ct K1 2) 4 0)] K1) := lay1.muF (l := []) (a := 2) (k := 4) (z := 0) rfl rfl
    refine m_putfield (u := []) (u' := [(2, pm_upd (pm_ct K1 2) 4 0)]) (M := K1) lk_121_13 rfl (lay1.on (by decide) rfl) (fun h => absurd h (by decide)) rfl ?_
    refine g_iload_n lk_121_16 rfl ?_
    refine g_if (t := 22) lk_121_17 rfl (by first | (unfold pm_inI; omega) | exact pm_and_in _ _ | exact pm_shr_in _ _ | exact pm_or_in _ _ | exact pm_xor_in _ _ | exact pm_shl_in _ _ | exact pm_cmp_in _ _ | exact pm_b8_in _ | (unfold pm_inI; split <;> omega)) (fun _ => ?_) (fun h => absurd (show ¬ (1 : Int) = (0 : Int) by omega) h)
    have fA : Fr [2] K1 (Mu [(2, pm_upd (pm_ct K1 2) 4 0)] K1) := Fr.mu _ _ rfl
    refine k22 (Mu [(2, pm_upd (pm_ct K1 2) 4 0)] K1) lay1 ((f1.1.mono (fun a q => List.mem_append_left _ (by simp at q ⊢; omega))).trans (fA.mono (fun a q => List.mem_append_left _ (by simp at q ⊢; omega)))) (tb1.fr fA (by decide) (by decide)) (tr1.fr (by show Ts'.length ≤ 4; omega) fA (by rw [Mu_ct]; rfl) (fun a h1 h2 q => by simp at q; omega)) ⟨by rw [Mu_ct]; rfl, by rw [Mu_ct]; exact c6, by rw [Mu_ct]; exact c7⟩
