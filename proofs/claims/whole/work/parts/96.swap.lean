/-! ===== acts: the table turned, the class ===== -/
def swX (x : Nat → Nat) (i : Nat) : Nat := x (6 * (i % 6) + i / 6)
def Tsw (T : Tab) : Tab := (tC T, tR T, swX T.2.2.1, tB T, tA T)
theorem TabOK.sw {T : Tab} (h : TabOK T) : TabOK (Tsw T) := ⟨h.2.1, h.1, fun i => h.2.2.1 (6 * (i % 6) + i / 6), h.2.2.2.2, h.2.2.2.1⟩
theorem TabX.sw {T : Tab} (h : TabX T) : TabX (Tsw T) := fun i hi => by
  have h1 := h (6 * (i % 6) + i / 6) (by omega)
  show (i / 6 < tC T ∧ i % 6 < tR T) ∨ tX T (6 * (i % 6) + i / 6) = 10
  omega
/-- the table while it is turned: done for hi below r, at r for lo below c -/
def swq (x : Nat → Nat) (r c i : Nat) : Nat := if max (i / 6) (i % 6) < r ∨ (max (i / 6) (i % 6) = r ∧ min (i / 6) (i % 6) < c) then x (6 * (i % 6) + i / 6) else x i
theorem swq_0 (x : Nat → Nat) (i : Nat) : swq x 0 0 i = x i := by unfold swq; rw [if_neg (by omega)]
theorem swq_r (x : Nat → Nat) (r : Nat) {i : Nat} (hi : i < 36) : swq x r r i = swq x (r + 1) 0 i := by
  unfold swq
  by_cases h : max (i / 6) (i % 6) < r ∨ (max (i / 6) (i % 6) = r ∧ min (i / 6) (i % 6) < r)
  · rw [if_pos h, if_pos (by omega)]
  · rw [if_neg h]
    by_cases h2 : max (i / 6) (i % 6) < r + 1 ∨ (max (i / 6) (i % 6) = r + 1 ∧ min (i / 6) (i % 6) < 0)
    · rw [if_pos h2, show 6 * (i % 6) + i / 6 = i by omega]
    · rw [if_neg h2]
theorem swq_6 (x : Nat → Nat) {i : Nat} (hi : i < 36) : swq x 6 0 i = swX x i := by unfold swq swX; rw [if_pos (by omega)]
theorem swq_s {x : Nat → Nat} {r c : Nat} (hr : r < 6) (hc : c < r) {f : Nat → Int} (hf : ∀ i, i < 36 → f i = (swq x r c i : Int)) {i : Nat} (hi : i < 36) : pm_upd (pm_upd f (6 * r + c) (f (6 * c + r))) (6 * c + r) (f (6 * r + c)) i = (swq x r (c + 1) i : Int) := by
  have q1 : swq x r c (6 * r + c) = x (6 * r + c) := by unfold swq; rw [if_neg (by omega)]
  have q2 : swq x r c (6 * c + r) = x (6 * c + r) := by unfold swq; rw [if_neg (by omega)]
  have q3 : swq x r (c + 1) (6 * r + c) = x (6 * c + r) := by unfold swq; rw [if_pos (by omega), show 6 * ((6 * r + c) % 6) + (6 * r + c) / 6 = 6 * c + r by omega]
  have q4 : swq x r (c + 1) (6 * c + r) = x (6 * r + c) := by unfold swq; rw [if_pos (by omega), show 6 * ((6 * c + r) % 6) + (6 * c + r) / 6 = 6 * r + c by omega]
  by_cases e1 : i = 6 * c + r
  · rw [e1, pm_upd_eq, hf _ (by omega), q1, q4]
  by_cases e2 : i = 6 * r + c
  · rw [e2, pm_upd_ne (by omega), pm_upd_eq, hf _ (by omega), q2, q3]
  · rw [pm_upd_ne e1, pm_upd_ne e2, hf i hi]
    unfold swq
    by_cases h : max (i / 6) (i % 6) < r ∨ (max (i / 6) (i % 6) = r ∧ min (i / 6) (i % 6) < c)
    · rw [if_pos h, if_pos (by omega)]
    · rw [if_neg h, if_neg (by omega)]
theorem c_Table_atz {d mc ms : Nat} {M : pm_M} (lay : Lay M) {r c : Nat} {z : Int} (hr : r < 6) (hc : c < 6) (hz : pm_ct M 25 (6 * r + c) = z) :
    pm_E d 85 [(2, ((24 : Nat) : Int)), (0, (r : Int)), (0, (c : Int))] M mc ms (fun ρ M' => ρ = some (0, z) ∧ M' = M) := by
  obtain ⟨j, hj⟩ : ∃ j, j = 6 * r + c := ⟨_, rfl⟩
  rw [← hj] at hz
  have ej : (r : Int) * 6 + (c : Int) = (j : Int) := by omega
  show Wp d 85 0 [(2, ((24 : Nat) : Int)), (0, (r : Int)), (0, (c : Int))] [] M mc ms _
  refine g_aload_n lk_85_0 rfl ?_
  refine g_getfield lk_85_1 rfl (lay.on (by decide) rfl) (v := ((25 : Nat) : Int)) (lay.rf rfl) ?_
  refine g_iload_n lk_85_4 rfl ?_
  refine g_bipush lk_85_5 ?_
  refine g_imul lk_85_7 ?_
  refine g_iload_n lk_85_8 rfl ?_
  refine g_iadd lk_85_9 ?_
  refine g_top (z := (((r : Int) * 6) + (c : Int))) (z' := (j : Int)) (ej) ?_
  refine m_iaload (u := []) (M := M) lk_85_10 (lay.ay (by decide) rfl) (by omega) (j := j) (by omega) (v := z) hz ?_
  refine g_ireturn lk_85_11 (fun h => absurd h (by decide)) ?_
  exact ⟨rfl, rfl⟩
set_option maxHeartbeats 4000000 in
theorem c_Table_swapSides {d mc ms : Nat} {M : pm_M} (lay0 : Lay M) {T : Tab} (hT : TabOK T) (hM0 : TbAt M 24 T) :
    pm_E (d + 1) 94 [(2, ((24 : Nat) : Int))] M mc ms (fun ρ M' => ρ = none ∧ Lay M' ∧ Fr [24, 25] M M' ∧ TbAt M' 24 (Tsw T)) := by
  obtain ⟨Q, hQ⟩ : ∃ Q : pm_Q, Q = (fun ρ M' => ρ = none ∧ Lay M' ∧ Fr [24, 25] M M' ∧ TbAt M' 24 (Tsw T)) := ⟨_, rfl⟩
  rw [← hQ]
  obtain ⟨x, hx⟩ : ∃ x : Nat → Nat, x = T.2.2.1 := ⟨_, rfl⟩
  have inner : ∀ (r : Nat), r < 6 → (∀ (v2 v3 : pm_V) (N : pm_M), Lay N → Fr [24, 25] M N → pm_ct N 24 = pm_ct M 24 → (∀ i, i < 36 → pm_ct N 25 i = (swq x (r + 1) 0 i : Int)) → Wp (d + 1) 94 2 [(2, ((24 : Nat) : Int)), (0, ((r + 1 : Nat) : Int)), v2, v3] [] N mc ms Q) →
      ∀ (n c : Nat) (v3 : pm_V) (N : pm_M), c + n = r → Lay N → Fr [24, 25] M N → pm_ct N 24 = pm_ct M 24 → (∀ i, i < 36 → pm_ct N 25 i = (swq x r c i : Int)) → Wp (d + 1) 94 10 [(2, ((24 : Nat) : Int)), (0, (r : Int)), (0, (c : Int)), v3] [] N mc ms Q := by
    intro r hr go n
    induction n with
    | zero =>
      intro c v3 N hi lay fr f24 hN
      have e : c = r := by omega
      rw [e] at hN ⊢
      refine g_iload_n lk_94_10 rfl ?_
      refine g_iload_n lk_94_11 rfl ?_
      refine g_icmp (t := 57) lk_94_12 rfl (by first | (unfold pm_inI; omega) | exact pm_and_in _ _ | exact pm_shr_in _ _ | exact pm_or_in _ _ | exact pm_xor_in _ _ | exact pm_shl_in _ _ | exact pm_cmp_in _ _ | exact pm_b8_in _ | (unfold pm_inI; split <;> omega)) (by first | (unfold pm_inI; omega) | exact pm_and_in _ _ | exact pm_shr_in _ _ | exact pm_or_in _ _ | exact pm_xor_in _ _ | exact pm_shl_in _ _ | exact pm_cmp_in _ _ | exact pm_b8_in _ | (unfold pm_inI; split <;> omega)) (fun h1 => ?_) (fun h1 => ?_)
      · replace h1 : (r : Int) ≤ (r : Int) := h1
        refine g_iinc (ls' := [(2, ((24 : Nat) : Int)), (0, ((r : Int) + 1)), (0, (r : Int)), v3]) lk_94_57 rfl rfl rfl ?_
        refine g_goto (t := 2) lk_94_60 rfl ?_
        exact go _ _ N lay fr f24 (fun i hi => by rw [hN i hi, swq_r x r hi])
      · replace h1 : ¬ ((r : Int) ≤ (r : Int)) := h1
        omega
    | succ n ih =>
      intro c v3 N hi lay fr f24 hN
      obtain ⟨j1, hj1⟩ : ∃ j, j = 6 * r + c := ⟨_, rfl⟩
      obtain ⟨j2, hj2⟩ : ∃ j, j = 6 * c + r := ⟨_, rfl⟩
      have ej1 : (r : Int) * 6 + (c : Int) = (j1 : Int) := by omega
      have ej2 : (c : Int) * 6 + (r : Int) = (j2 : Int) := by omega
      obtain ⟨z1, hz1⟩ : ∃ z, pm_ct N 25 j1 = z := ⟨_, rfl⟩
      obtain ⟨z2, hz2⟩ : ∃ z, pm_ct N 25 j2 = z := ⟨_, rfl⟩
      have a1 := c_Table_atz (d := d) (mc := 0) (ms := 0) lay (r := r) (c := c) (z := z1) (by omega) (by omega) (by rw [← hj1]; exact hz1)
      have a2 := c_Table_atz (d := d) (mc := 0) (ms := 0) lay (r := c) (c := r) (z := z2) (by omega) (by omega) (by rw [← hj2]; exact hz2)
      have st := fun i (hi : i < 36) => swq_s hr (show c < r by omega) hN hi
      rw [← hj1, ← hj2, hz1, hz2] at st
      have fd := fun N' => ih (c + 1) (0, z1) N' (by omega)
      clear ih go
      refine g_iload_n lk_94_10 rfl ?_
      refine g_iload_n lk_94_11 rfl ?_
      refine g_icmp (t := 57) lk_94_12 rfl (by first | (unfold pm_inI; omega) | exact pm_and_in _ _ | exact pm_shr_in _ _ | exact pm_or_in _ _ | exact pm_xor_in _ _ | exact pm_shl_in _ _ | exact pm_cmp_in _ _ | exact pm_b8_in _ | (unfold pm_inI; split <;> omega)) (by first | (unfold pm_inI; omega) | exact pm_and_in _ _ | exact pm_shr_in _ _ | exact pm_or_in _ _ | exact pm_xor_in _ _ | exact pm_shl_in _ _ | exact pm_cmp_in _ _ | exact pm_b8_in _ | (unfold pm_inI; split <;> omega)) (fun h1 => ?_) (fun h1 => ?_)
      · replace h1 : (r : Int) ≤ (c : Int) := h1
        omega
      · replace h1 : ¬ ((r : Int) ≤ (c : Int)) := h1
        refine g_aload_n lk_94_15 rfl ?_
        refine g_iload_n lk_94_16 rfl ?_
        refine g_iload_n lk_94_17 rfl ?_
        refine g_virtual (p := 24) (Qc := _) lk_94_18 rfl (Nat.le_of_ble_eq_true rfl) rfl rfl (lay.on (by decide) rfl) (Nat.le_of_ble_eq_true rfl) (Nat.le_of_ble_eq_true rfl) (Nat.zero_le _) (Nat.zero_le _) (a1) ?_
        rintro _ N2 ⟨rfl, hN2⟩
        rw [hN2]
        show Wp _ 94 21 [(2, ((24 : Nat) : Int)), (0, (r : Int)), (0, (c : Int)), v3] [(0, z1)] N _ _ _
        refine g_istore_n (ls' := [(2, ((24 : Nat) : Int)), (0, (r : Int)), (0, (c : Int)), (0, z1)]) lk_94_21 rfl rfl ?_
        refine g_aload_n lk_94_22 rfl ?_
        refine g_getfield lk_94_23 rfl (lay.on (by decide) rfl) (v := ((25 : Nat) : Int)) (lay.rf rfl) ?_
        refine g_iload_n lk_94_26 rfl ?_
        refine g_bipush lk_94_27 ?_
        refine g_imul lk_94_29 ?_
        refine g_iload_n lk_94_30 rfl ?_
        refine g_iadd lk_94_31 ?_
        refine g_top (z := (((r : Int) * 6) + (c : Int))) (z' := (j1 : Int)) (ej1) ?_
        refine g_aload_n lk_94_32 rfl ?_
        refine g_iload_n lk_94_33 rfl ?_
        refine g_iload_n lk_94_34 rfl ?_
        refine g_virtual (p := 24) (Qc := _) lk_94_35 rfl (Nat.le_of_ble_eq_true rfl) rfl rfl (lay.on (by decide) rfl) (Nat.le_of_ble_eq_true rfl) (Nat.le_of_ble_eq_true rfl) (Nat.zero_le _) (Nat.zero_le _) (a2) ?_
        rintro _ N3 ⟨rfl, hN3⟩
        rw [hN3]
        show Wp _ 94 38 [(2, ((24 : Nat) : Int)), (0, (r : Int)), (0, (c : Int)), (0, z1)] [(0, z2), (0, (j1 : Int)), (2, ((25 : Nat) : Int))] N _ _ _
        have lay4 : Lay (Mu [(25, pm_upd (pm_ct N 25) j1 z2)] N) := lay.muA (l := []) (a := 25) (f := pm_upd (pm_ct N 25) j1 z2) rfl rfl
        refine m_iastore (u := []) (u' := [(25, pm_upd (pm_ct N 25) j1 z2)]) (M := N) lk_94_38 (lay.ay (by decide) rfl) (by omega) (j := j1) (by omega) rfl ?_
        refine g_aload_n lk_94_39 rfl ?_
        refine g_getfield lk_94_40 rfl (lay4.on (by decide) rfl) (v := ((25 : Nat) : Int)) (lay4.rf rfl) ?_
        refine g_iload_n lk_94_43 rfl ?_
        refine g_bipush lk_94_44 ?_
        refine g_imul lk_94_46 ?_
        refine g_iload_n lk_94_47 rfl ?_
        refine g_iadd lk_94_48 ?_
        refine g_top (z := (((c : Int) * 6) + (r : Int))) (z' := (j2 : Int)) (ej2) ?_
        refine g_iload_n lk_94_49 rfl ?_
        have lay5 : Lay (Mu [(25, pm_upd (pm_upd (pm_ct N 25) j1 z2) j2 z1)] N) := lay4.muA (l := [(25, pm_upd (pm_ct N 25) j1 z2)]) (a := 25) (f := pm_upd (pm_upd (pm_ct N 25) j1 z2) j2 z1) rfl rfl
        refine m_iastore (u := [(25, pm_upd (pm_ct N 25) j1 z2)]) (u' := [(25, pm_upd (pm_upd (pm_ct N 25) j1 z2) j2 z1)]) (M := N) lk_94_50 (lay4.ay (by decide) rfl) (by omega) (j := j2) (by omega) rfl ?_
        refine g_iinc (ls' := [(2, ((24 : Nat) : Int)), (0, (r : Int)), (0, ((c : Int) + 1)), (0, z1)]) lk_94_51 rfl rfl rfl ?_
        refine g_goto (t := 10) lk_94_54 rfl ?_
        refine fd _ lay5 (fr.trans (Fr.mu _ _ rfl)) (by rw [Mu_ct]; exact f24) (fun i hi => by rw [Mu_ct]; exact st i hi)
  have outer : ∀ (n r : Nat) (v2 v3 : pm_V) (N : pm_M), r + n = 6 → Lay N → Fr [24, 25] M N → pm_ct N 24 = pm_ct M 24 → (∀ i, i < 36 → pm_ct N 25 i = (swq x r 0 i : Int)) → Wp (d + 1) 94 2 [(2, ((24 : Nat) : Int)), (0, (r : Int)), v2, v3] [] N mc ms Q := by
    intro n
    induction n with
    | zero =>
      intro r v2 v3 N hi lay fr f24 hN
      have e : r = 6 := by omega
      rw [e] at hN ⊢
      obtain ⟨m1, m2, m3, m4, _⟩ := id hM0
      rw [← f24] at m1 m2 m3 m4
      refine g_iload_n lk_94_2 rfl ?_
      refine g_bipush lk_94_3 ?_
      refine g_icmp (t := 63) lk_94_5 rfl (by first | (unfold pm_inI; omega) | exact pm_and_in _ _ | exact pm_shr_in _ _ | exact pm_or_in _ _ | exact pm_xor_in _ _ | exact pm_shl_in _ _ | exact pm_cmp_in _ _ | exact pm_b8_in _ | (unfold pm_inI; split <;> omega)) (by first | (unfold pm_inI; omega) | exact pm_and_in _ _ | exact pm_shr_in _ _ | exact pm_or_in _ _ | exact pm_xor_in _ _ | exact pm_shl_in _ _ | exact pm_cmp_in _ _ | exact pm_b8_in _ | (unfold pm_inI; split <;> omega)) (fun _ => ?_) (fun h => absurd (show (6 : Int) ≤ (6 : Int) by omega) h)
      refine g_aload_n lk_94_63 rfl ?_
      refine m_getfield (u := []) (M := N) lk_94_64 rfl (lay.on (by decide) rfl) (v := (tR T : Int)) m1 ?_
      refine g_istore_n (ls' := [(2, ((24 : Nat) : Int)), (0, (tR T : Int)), v2, v3]) lk_94_67 rfl rfl ?_
      refine g_aload_n lk_94_68 rfl ?_
      refine g_aload_n lk_94_69 rfl ?_
      refine m_getfield (u := []) (M := N) lk_94_70 rfl (lay.on (by decide) rfl) (v := (tC T : Int)) m2 ?_
      have lay1 : Lay (Mu [(24, pm_upd (pm_ct N 24) 1 (tC T : Int))] N) := lay.muF (l := []) (a := 24) (k := 1) (z := (tC T : Int)) rfl rfl
      refine m_putfield (u := []) (u' := [(24, pm_upd (pm_ct N 24) 1 (tC T : Int))]) (M := N) lk_94_73 rfl (lay.on (by decide) rfl) (fun h => absurd h (by decide)) rfl ?_
      refine g_aload_n lk_94_76 rfl ?_
      refine g_iload_n lk_94_77 rfl ?_
      have lay2 : Lay (Mu [(24, pm_upd (pm_upd (pm_ct N 24) 1 (tC T : Int)) 2 (tR T : Int))] N) := lay1.muF (l := [(24, pm_upd (pm_ct N 24) 1 (tC T : Int))]) (a := 24) (k := 2) (z := (tR T : Int)) rfl rfl
      refine m_putfield (u := [(24, pm_upd (pm_ct N 24) 1 (tC T : Int))]) (u' := [(24, pm_upd (pm_upd (pm_ct N 24) 1 (tC T : Int)) 2 (tR T : Int))]) (M := N) lk_94_78 rfl (lay1.on (by decide) rfl) (fun h => absurd h (by decide)) rfl ?_
      refine g_aload_n lk_94_81 rfl ?_
      refine m_getfield (u := [(24, pm_upd (pm_upd (pm_ct N 24) 1 (tC T : Int)) 2 (tR T : Int))]) (M := N) lk_94_82 rfl (lay2.on (by decide) rfl) (v := (tA T : Int)) m3 ?_
      refine g_istore_n (ls' := [(2, ((24 : Nat) : Int)), (0, (tR T : Int)), (0, (tA T : Int)), v3]) lk_94_85 rfl rfl ?_
      refine g_aload_n lk_94_86 rfl ?_
      refine g_aload_n lk_94_87 rfl ?_
      refine m_getfield (u := [(24, pm_upd (pm_upd (pm_ct N 24) 1 (tC T : Int)) 2 (tR T : Int))]) (M := N) lk_94_88 rfl (lay2.on (by decide) rfl) (v := (tB T : Int)) m4 ?_
      have lay3 : Lay (Mu [(24, pm_upd (pm_upd (pm_upd (pm_ct N 24) 1 (tC T : Int)) 2 (tR T : Int)) 3 (tB T : Int))] N) := lay2.muF (l := [(24, pm_upd (pm_upd (pm_ct N 24) 1 (tC T : Int)) 2 (tR T : Int))]) (a := 24) (k := 3) (z := (tB T : Int)) rfl rfl
      refine m_putfield (u := [(24, pm_upd (pm_upd (pm_ct N 24) 1 (tC T : Int)) 2 (tR T : Int))]) (u' := [(24, pm_upd (pm_upd (pm_upd (pm_ct N 24) 1 (tC T : Int)) 2 (tR T : Int)) 3 (tB T : Int))]) (M := N) lk_94_91 rfl (lay2.on (by decide) rfl) (fun h => absurd h (by decide)) rfl ?_
      refine g_aload_n lk_94_94 rfl ?_
      refine g_iload_n lk_94_95 rfl ?_
      have lay4 : Lay (Mu [(24, pm_upd (pm_upd (pm_upd (pm_upd (pm_ct N 24) 1 (tC T : Int)) 2 (tR T : Int)) 3 (tB T : Int)) 4 (tA T : Int))] N) := lay3.muF (l := [(24, pm_upd (pm_upd (pm_upd (pm_ct N 24) 1 (tC T : Int)) 2 (tR T : Int)) 3 (tB T : Int))]) (a := 24) (k := 4) (z := (tA T : Int)) rfl rfl
      refine m_putfield (u := [(24, pm_upd (pm_upd (pm_upd (pm_ct N 24) 1 (tC T : Int)) 2 (tR T : Int)) 3 (tB T : Int))]) (u' := [(24, pm_upd (pm_upd (pm_upd (pm_upd (pm_ct N 24) 1 (tC T : Int)) 2 (tR T : Int)) 3 (tB T : Int)) 4 (tA T : Int))]) (M := N) lk_94_96 rfl (lay3.on (by decide) rfl) (fun h => absurd h (by decide)) rfl ?_
      refine g_return lk_94_99 ?_
      rw [hQ]
      refine ⟨rfl, lay4, fr.trans (Fr.mu _ _ rfl), ?_, ?_, ?_, ?_, fun i hi => ?_⟩
      · rw [Mu_ct]; rfl
      · rw [Mu_ct]; rfl
      · rw [Mu_ct]; rfl
      · rw [Mu_ct]; rfl
      · rw [Mu_ct]; show pm_ct N 25 i = _; rw [hN i hi, swq_6 x hi, hx]; rfl
    | succ n ih =>
      intro r v2 v3 N hi lay fr f24 hN
      refine g_iload_n lk_94_2 rfl ?_
      refine g_bipush lk_94_3 ?_
      refine g_icmp (t := 63) lk_94_5 rfl (by first | (unfold pm_inI; omega) | exact pm_and_in _ _ | exact pm_shr_in _ _ | exact pm_or_in _ _ | exact pm_xor_in _ _ | exact pm_shl_in _ _ | exact pm_cmp_in _ _ | exact pm_b8_in _ | (unfold pm_inI; split <;> omega)) (by first | (unfold pm_inI; omega) | exact pm_and_in _ _ | exact pm_shr_in _ _ | exact pm_or_in _ _ | exact pm_xor_in _ _ | exact pm_shl_in _ _ | exact pm_cmp_in _ _ | exact pm_b8_in _ | (unfold pm_inI; split <;> omega)) (fun h1 => ?_) (fun h1 => ?_)
      · replace h1 : 6 ≤ (r : Int) := h1
        omega
      · replace h1 : ¬ (6 ≤ (r : Int)) := h1
        refine g_iconst lk_94_8 ?_
        refine g_istore_n (ls' := [(2, ((24 : Nat) : Int)), (0, (r : Int)), (0, 0), v3]) lk_94_9 rfl rfl ?_
        exact inner r (by omega) (fun w2 w3 N' l f g h => ih (r + 1) w2 w3 N' (by omega) l f g h) r 0 _ N (by omega) lay fr f24 hN
  show Wp (d + 1) 94 0 [(2, ((24 : Nat) : Int)), (9, 0), (9, 0), (9, 0)] [] M mc ms Q
  refine g_iconst lk_94_0 ?_
  refine g_istore_n (ls' := [(2, ((24 : Nat) : Int)), (0, 0), (9, 0), (9, 0)]) lk_94_1 rfl rfl ?_
  exact outer 6 0 _ _ M (by omega) lay0 (Fr.refl _ _) rfl (fun i hi => by rw [swq_0, hx]; exact hM0.2.2.2.2 i hi)
def swN (x : Nd) : Nd := (if x.1 = 0 then 0 else 3 - x.1, x.2.1, x.2.2)
def Lsw (L : List Nd) : List Nd := L.map swN
theorem Lsw_len (L : List Nd) : (Lsw L).length = L.length := List.length_map _
theorem ndA_sw (L : List Nd) (k : Nat) : ndA (Lsw L) k = swN (ndA L k) := by
  unfold ndA Lsw
  rw [List.getD_eq_getElem?_getD, List.getD_eq_getElem?_getD, List.getElem?_map]
  cases L[k]? <;> rfl
theorem swN_0 (x : Nd) (h : x.1 ≤ 2) : ((swN x).1 = 0 ↔ x.1 = 0) ∧ (swN x).1 ≤ 2 := by
  unfold swN
  show ((if x.1 = 0 then 0 else 3 - x.1) = 0 ↔ x.1 = 0) ∧ (if x.1 = 0 then 0 else 3 - x.1) ≤ 2
  split <;> omega
theorem TrX.sw {L : List Nd} {p dp : Nat → Nat} (h : TrX L p dp) : TrX (Lsw L) p dp := by
  obtain ⟨⟨d1, d2, d3, d4⟩, ⟨p1, p2⟩, h3⟩ := h
  have z := fun k (hk : k < L.length) => swN_0 (ndA L k) (d4 k hk).1
  refine ⟨⟨by rw [Lsw_len]; exact d1, by rw [Lsw_len]; exact d2, d3, fun k hk => ?_⟩, ⟨fun k hk h0 => ?_, fun k k0 hk => ?_⟩, fun k hk => ?_⟩
  · rw [Lsw_len] at hk
    obtain ⟨a1, a2, a3, a4⟩ := d4 k hk
    unfold NdOK
    rw [ndA_sw, Lsw_len]
    exact ⟨(z k hk).2, a2, a3, fun h0 => a4 (fun e => h0 ((z k hk).1.mpr e))⟩
  · rw [Lsw_len] at hk
    rw [ndA_sw] at h0 ⊢
    exact p1 k hk (fun e => h0 ((z k hk).1.mpr e))
  · rw [Lsw_len] at hk
    rw [ndA_sw]
    obtain ⟨a1, a2, a3⟩ := p2 k k0 hk
    exact ⟨a1, fun e => a2 ((z (p k) (by omega)).1.mp e), a3⟩
  · rw [Lsw_len] at hk
    rw [ndA_sw]
    exact ⟨(h3 k hk).1, fun e => (h3 k hk).2 ((z k hk).1.mp e)⟩
set_option maxHeartbeats 4000000 in
theorem c_Told_swapSides0 {d mc ms : Nat} {M : pm_M} (lay0 : Lay M) {T : Tab} (hT : TabOK T) (hM0 : TbAt M 24 T) {L : List Nd} {p dp : Nat → Nat} {T0 : Tab} (hX : TdAt M 54 T0 L p dp) :
    pm_E (d + 3) 98 [(2, ((54 : Nat) : Int)), (2, ((24 : Nat) : Int))] M mc ms (fun ρ M' => ρ = none ∧ Lay M' ∧ Fr [56, 59, 60, 61, 62, 63, 64] M M' ∧ TdAt M' 54 T (Lsw L) p dp) := by
  obtain ⟨Q, hQ⟩ : ∃ Q : pm_Q, Q = (fun ρ M' => ρ = none ∧ Lay M' ∧ Fr [56, 59, 60, 61, 62, 63, 64] M M' ∧ TdAt M' 54 T (Lsw L) p dp) := ⟨_, rfl⟩
  rw [← hQ]
  obtain ⟨tx, hct0, hL0, _⟩ := hX
  have txs := tx.sw
  obtain ⟨hD, hp, _⟩ := id tx
  have l31 := hD.2.1
  obtain ⟨l, hl⟩ : ∃ l, l = L.length := ⟨_, rfl⟩
  rw [← hl] at hct0 l31
  have loop : ∀ (n i : Nat) (N : pm_M), i + n = l → Lay N → Fr [56] M N → (∀ k, k < l → pm_ct N 56 k = if k < i then ((swN (ndA L k)).1 : Int) else ((ndA L k).1 : Int)) → Wp (d + 3) 98 2 [(2, ((54 : Nat) : Int)), (2, ((24 : Nat) : Int)), (0, (i : Int))] [] N mc ms Q := by
    intro n
    induction n with
    | zero =>
      intro i N hi lay fr hN
      have hct : pm_ct N 55 3 = (l : Int) := by rw [fr.ct (by decide)]; exact hct0
      have e : i = l := by omega
      rw [e] at hN ⊢
      have ndl : NdL N 56 57 58 (Lsw L) := fun k x hk => by
        have k1 : k < L.length := by
          have := (List.getElem?_eq_some_iff.mp hk).1
          rw [Lsw_len] at this; exact this
        have ex : x = swN (ndA L k) := by
          have := ndA_get (L := Lsw L) (k := k) (by rw [Lsw_len]; exact k1)
          rw [hk, ndA_sw] at this
          exact Option.some.inj this
        obtain ⟨_, x2, x3⟩ := hL0 k _ (ndA_get k1)
        rw [ex, hN k (by omega), if_pos (by omega), fr.ct (by decide), fr.ct (by decide)]
        exact ⟨rfl, x2, x3⟩
      have hctS : pm_ct N 55 3 = ((Lsw L).length : Int) := by rw [Lsw_len, ← hl]; exact hct
      have fo := c_Told_follow0 (d := d) (mc := 0) (ms := 0) lay hT (hM0.fr fr (by decide) (by decide)) txs.1 txs.2.1 hctS ndl
      refine g_iload_n lk_98_2 rfl ?_
      refine g_aload_n lk_98_3 rfl ?_
      refine g_getfield lk_98_4 rfl (lay.on (by decide) rfl) (v := ((55 : Nat) : Int)) (lay.rf rfl) ?_
      refine m_getfield (u := []) (M := N) lk_98_7 rfl (lay.on (by decide) rfl) (v := (l : Int)) hct ?_
      refine g_icmp (t := 58) lk_98_10 rfl (by first | (unfold pm_inI; omega) | exact pm_and_in _ _ | exact pm_shr_in _ _ | exact pm_or_in _ _ | exact pm_xor_in _ _ | exact pm_shl_in _ _ | exact pm_cmp_in _ _ | exact pm_b8_in _ | (unfold pm_inI; split <;> omega)) (by first | (unfold pm_inI; omega) | exact pm_and_in _ _ | exact pm_shr_in _ _ | exact pm_or_in _ _ | exact pm_xor_in _ _ | exact pm_shl_in _ _ | exact pm_cmp_in _ _ | exact pm_b8_in _ | (unfold pm_inI; split <;> omega)) (fun h1 => ?_) (fun h1 => ?_)
      · replace h1 : (l : Int) ≤ (l : Int) := h1
        refine g_aload_n lk_98_58 rfl ?_
        refine g_aload_n lk_98_59 rfl ?_
        refine g_virtual (p := 54) (Qc := _) lk_98_60 rfl (Nat.le_of_ble_eq_true rfl) rfl rfl (lay.on (by decide) rfl) (Nat.le_of_ble_eq_true rfl) (Nat.le_of_ble_eq_true rfl) (Nat.zero_le _) (Nat.zero_le _) (fo) ?_
        rintro _ K1 ⟨rfl, lay1, f1, c1⟩
        show Wp _ 98 63 [(2, ((54 : Nat) : Int)), (2, ((24 : Nat) : Int)), (0, (l : Int))] [] K1 _ _ _
        refine g_return lk_98_63 ?_
        rw [hQ]
        refine ⟨rfl, lay1, (fr.mono (fun a q => by simp at q; simp [q])).trans (f1.mono (fun a q => by simp at q ⊢; omega)), txs, ?_, ?_, c1⟩
        · rw [f1.ct (by decide)]; exact hctS
        · unfold NdL at ndl ⊢
          rw [f1.ct (by decide), f1.ct (by decide), f1.ct (by decide)]; exact ndl
      · replace h1 : ¬ ((l : Int) ≤ (l : Int)) := h1
        omega
    | succ n ih =>
      intro i N hi lay fr hN
      have hct : pm_ct N 55 3 = (l : Int) := by rw [fr.ct (by decide)]; exact hct0
      have a1 := (hD.2.2.2 i (by omega)).1
      have y1 := hN i (by omega)
      rw [if_neg (by omega)] at y1
      have es : (swN (ndA L i)).1 = if (ndA L i).1 = 0 then 0 else 3 - (ndA L i).1 := rfl
      obtain ⟨x, hx⟩ : ∃ x, x = (ndA L i).1 := ⟨_, rfl⟩
      rw [← hx] at y1 a1 es
      have go : ∀ (N' : pm_M) (z : Int), N' = Mu [(56, pm_upd (pm_ct N 56) i z)] N → Lay N' → z = ((swN (ndA L i)).1 : Int) → Wp (d + 3) 98 2 [(2, ((54 : Nat) : Int)), (2, ((24 : Nat) : Int)), (0, (i : Int) + 1)] [] N' mc ms Q := fun N' z hN' l1 hz => by
        refine ih (i + 1) N' (by omega) l1 (by rw [hN']; exact fr.trans (Fr.mu _ _ rfl)) (fun k hk => ?_)
        rw [hN', Mu_ct]
        show pm_upd (pm_ct N 56) i z k = _
        by_cases e : k = i
        · rw [e, pm_upd_eq, if_pos (by omega), hz]
        · rw [pm_upd_ne e, hN k hk]
          by_cases e2 : k < i
          · rw [if_pos e2, if_pos (by omega)]
          · rw [if_neg e2, if_neg (by omega)]
      have go0 : x = 0 → Wp (d + 3) 98 2 [(2, ((54 : Nat) : Int)), (2, ((24 : Nat) : Int)), (0, (i : Int) + 1)] [] N mc ms Q := fun x0 => by
        refine ih (i + 1) N (by omega) lay fr (fun k hk => ?_)
        rw [hN k hk]
        by_cases e2 : k < i
        · rw [if_pos e2, if_pos (by omega)]
        · rw [if_neg e2]
          by_cases e3 : k = i
          · rw [if_pos (by omega), e3, es, if_pos x0, ← hx, x0]
          · rw [if_neg (by omega)]
      clear ih
      refine g_iload_n lk_98_2 rfl ?_
      refine g_aload_n lk_98_3 rfl ?_
      refine g_getfield lk_98_4 rfl (lay.on (by decide) rfl) (v := ((55 : Nat) : Int)) (lay.rf rfl) ?_
      refine m_getfield (u := []) (M := N) lk_98_7 rfl (lay.on (by decide) rfl) (v := (l : Int)) hct ?_
      refine g_icmp (t := 58) lk_98_10 rfl (by first | (unfold pm_inI; omega) | exact pm_and_in _ _ | exact pm_shr_in _ _ | exact pm_or_in _ _ | exact pm_xor_in _ _ | exact pm_shl_in _ _ | exact pm_cmp_in _ _ | exact pm_b8_in _ | (unfold pm_inI; split <;> omega)) (by first | (unfold pm_inI; omega) | exact pm_and_in _ _ | exact pm_shr_in _ _ | exact pm_or_in _ _ | exact pm_xor_in _ _ | exact pm_shl_in _ _ | exact pm_cmp_in _ _ | exact pm_b8_in _ | (unfold pm_inI; split <;> omega)) (fun h1 => ?_) (fun h1 => ?_)
      · replace h1 : (l : Int) ≤ (i : Int) := h1
        omega
      · replace h1 : ¬ ((l : Int) ≤ (i : Int)) := h1
        refine g_aload_n lk_98_13 rfl ?_
        refine g_getfield lk_98_14 rfl (lay.on (by decide) rfl) (v := ((55 : Nat) : Int)) (lay.rf rfl) ?_
        refine g_getfield lk_98_17 rfl (lay.on (by decide) rfl) (v := ((56 : Nat) : Int)) (lay.rf rfl) ?_
        refine g_iload_n lk_98_20 rfl ?_
        refine m_iaload (u := []) (M := N) lk_98_21 (lay.ay (by decide) rfl) (by omega) (j := i) (by omega) (v := (x : Int)) y1 ?_
        refine g_if (t := 52) lk_98_22 rfl (by first | (unfold pm_inI; omega) | exact pm_and_in _ _ | exact pm_shr_in _ _ | exact pm_or_in _ _ | exact pm_xor_in _ _ | exact pm_shl_in _ _ | exact pm_cmp_in _ _ | exact pm_b8_in _ | (unfold pm_inI; split <;> omega)) (fun h2 => ?_) (fun h2 => ?_)
        · replace h2 : (x : Int) = 0 := h2
          refine g_iinc (ls' := [(2, ((54 : Nat) : Int)), (2, ((24 : Nat) : Int)), (0, ((i : Int) + 1))]) lk_98_52 rfl rfl rfl ?_
          refine g_goto (t := 2) lk_98_55 rfl ?_
          exact go0 (by omega)
        · replace h2 : ¬ ((x : Int) = 0) := h2
          refine g_aload_n lk_98_25 rfl ?_
          refine g_getfield lk_98_26 rfl (lay.on (by decide) rfl) (v := ((55 : Nat) : Int)) (lay.rf rfl) ?_
          refine g_getfield lk_98_29 rfl (lay.on (by decide) rfl) (v := ((56 : Nat) : Int)) (lay.rf rfl) ?_
          refine g_iload_n lk_98_32 rfl ?_
          refine g_aload_n lk_98_33 rfl ?_
          refine g_getfield lk_98_34 rfl (lay.on (by decide) rfl) (v := ((55 : Nat) : Int)) (lay.rf rfl) ?_
          refine g_getfield lk_98_37 rfl (lay.on (by decide) rfl) (v := ((56 : Nat) : Int)) (lay.rf rfl) ?_
          refine g_iload_n lk_98_40 rfl ?_
          refine m_iaload (u := []) (M := N) lk_98_41 (lay.ay (by decide) rfl) (by omega) (j := i) (by omega) (v := (x : Int)) y1 ?_
          refine g_iconst lk_98_42 ?_
          refine g_icmp (t := 50) lk_98_43 rfl (by first | (unfold pm_inI; omega) | exact pm_and_in _ _ | exact pm_shr_in _ _ | exact pm_or_in _ _ | exact pm_xor_in _ _ | exact pm_shl_in _ _ | exact pm_cmp_in _ _ | exact pm_b8_in _ | (unfold pm_inI; split <;> omega)) (by first | (unfold pm_inI; omega) | exact pm_and_in _ _ | exact pm_shr_in _ _ | exact pm_or_in _ _ | exact pm_xor_in _ _ | exact pm_shl_in _ _ | exact pm_cmp_in _ _ | exact pm_b8_in _ | (unfold pm_inI; split <;> omega)) (fun h3 => ?_) (fun h3 => ?_)
          · replace h3 : ¬ (x : Int) = 1 := h3
            refine g_iconst lk_98_50 ?_
            have lay4 : Lay (Mu [(56, pm_upd (pm_ct N 56) i 1)] N) := lay.muA (l := []) (a := 56) (f := pm_upd (pm_ct N 56) i 1) rfl rfl
            refine m_iastore (u := []) (u' := [(56, pm_upd (pm_ct N 56) i 1)]) (M := N) lk_98_51 (lay.ay (by decide) rfl) (by omega) (j := i) (by omega) rfl ?_
            refine g_iinc (ls' := [(2, ((54 : Nat) : Int)), (2, ((24 : Nat) : Int)), (0, ((i : Int) + 1))]) lk_98_52 rfl rfl rfl ?_
            refine g_goto (t := 2) lk_98_55 rfl ?_
            exact go _ _ rfl lay4 (by rw [es, if_neg (by omega)]; omega)
          · replace h3 : ¬ (¬ (x : Int) = 1) := h3
            refine g_iconst lk_98_46 ?_
            refine g_goto (t := 51) lk_98_47 rfl ?_
            have lay5 : Lay (Mu [(56, pm_upd (pm_ct N 56) i 2)] N) := lay.muA (l := []) (a := 56) (f := pm_upd (pm_ct N 56) i 2) rfl rfl
            refine m_iastore (u := []) (u' := [(56, pm_upd (pm_ct N 56) i 2)]) (M := N) lk_98_51 (lay.ay (by decide) rfl) (by omega) (j := i) (by omega) rfl ?_
            refine g_iinc (ls' := [(2, ((54 : Nat) : Int)), (2, ((24 : Nat) : Int)), (0, ((i : Int) + 1))]) lk_98_52 rfl rfl rfl ?_
            refine g_goto (t := 2) lk_98_55 rfl ?_
            exact go _ _ rfl lay5 (by rw [es, if_neg (by omega)]; omega)
  show Wp (d + 3) 98 0 [(2, ((54 : Nat) : Int)), (2, ((24 : Nat) : Int)), (9, 0)] [] M mc ms Q
  refine g_iconst lk_98_0 ?_
  refine g_istore_n (ls' := [(2, ((54 : Nat) : Int)), (2, ((24 : Nat) : Int)), (0, 0)]) lk_98_1 rfl rfl ?_
  refine loop l 0 M (by omega) lay0 (Fr.refl _ _) (fun k hk => ?_)
  rw [if_neg (by omega)]; exact (hL0 k _ (ndA_get (by omega))).1
set_option maxHeartbeats 4000000 in
theorem c_Told_swapSides1 {d mc ms : Nat} {M : pm_M} (lay0 : Lay M) {T : Tab} (hT : TabOK T) (hM0 : TbAt M 24 T) {L : List Nd} {p dp : Nat → Nat} {T0 : Tab} (hX : TdAt M 65 T0 L p dp) :
    pm_E (d + 3) 98 [(2, ((65 : Nat) : Int)), (2, ((24 : Nat) : Int))] M mc ms (fun ρ M' => ρ = none ∧ Lay M' ∧ Fr [67, 70, 71, 72, 73, 74, 75] M M' ∧ TdAt M' 65 T (Lsw L) p dp) := by
  obtain ⟨Q, hQ⟩ : ∃ Q : pm_Q, Q = (fun ρ M' => ρ = none ∧ Lay M' ∧ Fr [67, 70, 71, 72, 73, 74, 75] M M' ∧ TdAt M' 65 T (Lsw L) p dp) := ⟨_, rfl⟩
  rw [← hQ]
  obtain ⟨tx, hct0, hL0, _⟩ := hX
  have txs := tx.sw
  obtain ⟨hD, hp, _⟩ := id tx
  have l31 := hD.2.1
  obtain ⟨l, hl⟩ : ∃ l, l = L.length := ⟨_, rfl⟩
  rw [← hl] at hct0 l31
  have loop : ∀ (n i : Nat) (N : pm_M), i + n = l → Lay N → Fr [67] M N → (∀ k, k < l → pm_ct N 67 k = if k < i then ((swN (ndA L k)).1 : Int) else ((ndA L k).1 : Int)) → Wp (d + 3) 98 2 [(2, ((65 : Nat) : Int)), (2, ((24 : Nat) : Int)), (0, (i : Int))] [] N mc ms Q := by
    intro n
    induction n with
    | zero =>
      intro i N hi lay fr hN
      have hct : pm_ct N 66 3 = (l : Int) := by rw [fr.ct (by decide)]; exact hct0
      have e : i = l := by omega
      rw [e] at hN ⊢
      have ndl : NdL N 67 68 69 (Lsw L) := fun k x hk => by
        have k1 : k < L.length := by
          have := (List.getElem?_eq_some_iff.mp hk).1
          rw [Lsw_len] at this; exact this
        have ex : x = swN (ndA L k) := by
          have := ndA_get (L := Lsw L) (k := k) (by rw [Lsw_len]; exact k1)
          rw [hk, ndA_sw] at this
          exact Option.some.inj this
        obtain ⟨_, x2, x3⟩ := hL0 k _ (ndA_get k1)
        rw [ex, hN k (by omega), if_pos (by omega), fr.ct (by decide), fr.ct (by decide)]
        exact ⟨rfl, x2, x3⟩
      have hctS : pm_ct N 66 3 = ((Lsw L).length : Int) := by rw [Lsw_len, ← hl]; exact hct
      have fo := c_Told_follow1 (d := d) (mc := 0) (ms := 0) lay hT (hM0.fr fr (by decide) (by decide)) txs.1 txs.2.1 hctS ndl
      refine g_iload_n lk_98_2 rfl ?_
      refine g_aload_n lk_98_3 rfl ?_
      refine g_getfield lk_98_4 rfl (lay.on (by decide) rfl) (v := ((66 : Nat) : Int)) (lay.rf rfl) ?_
      refine m_getfield (u := []) (M := N) lk_98_7 rfl (lay.on (by decide) rfl) (v := (l : Int)) hct ?_
      refine g_icmp (t := 58) lk_98_10 rfl (by first | (unfold pm_inI; omega) | exact pm_and_in _ _ | exact pm_shr_in _ _ | exact pm_or_in _ _ | exact pm_xor_in _ _ | exact pm_shl_in _ _ | exact pm_cmp_in _ _ | exact pm_b8_in _ | (unfold pm_inI; split <;> omega)) (by first | (unfold pm_inI; omega) | exact pm_and_in _ _ | exact pm_shr_in _ _ | exact pm_or_in _ _ | exact pm_xor_in _ _ | exact pm_shl_in _ _ | exact pm_cmp_in _ _ | exact pm_b8_in _ | (unfold pm_inI; split <;> omega)) (fun h1 => ?_) (fun h1 => ?_)
      · replace h1 : (l : Int) ≤ (l : Int) := h1
        refine g_aload_n lk_98_58 rfl ?_
        refine g_aload_n lk_98_59 rfl ?_
        refine g_virtual (p := 65) (Qc := _) lk_98_60 rfl (Nat.le_of_ble_eq_true rfl) rfl rfl (lay.on (by decide) rfl) (Nat.le_of_ble_eq_true rfl) (Nat.le_of_ble_eq_true rfl) (Nat.zero_le _) (Nat.zero_le _) (fo) ?_
        rintro _ K1 ⟨rfl, lay1, f1, c1⟩
        show Wp _ 98 63 [(2, ((65 : Nat) : Int)), (2, ((24 : Nat) : Int)), (0, (l : Int))] [] K1 _ _ _
        refine g_return lk_98_63 ?_
        rw [hQ]
        refine ⟨rfl, lay1, (fr.mono (fun a q => by simp at q; simp [q])).trans (f1.mono (fun a q => by simp at q ⊢; omega)), txs, ?_, ?_, c1⟩
        · rw [f1.ct (by decide)]; exact hctS
        · unfold NdL at ndl ⊢
          rw [f1.ct (by decide), f1.ct (by decide), f1.ct (by decide)]; exact ndl
      · replace h1 : ¬ ((l : Int) ≤ (l : Int)) := h1
        omega
    | succ n ih =>
      intro i N hi lay fr hN
      have hct : pm_ct N 66 3 = (l : Int) := by rw [fr.ct (by decide)]; exact hct0
      have a1 := (hD.2.2.2 i (by omega)).1
      have y1 := hN i (by omega)
      rw [if_neg (by omega)] at y1
      have es : (swN (ndA L i)).1 = if (ndA L i).1 = 0 then 0 else 3 - (ndA L i).1 := rfl
      obtain ⟨x, hx⟩ : ∃ x, x = (ndA L i).1 := ⟨_, rfl⟩
      rw [← hx] at y1 a1 es
      have go : ∀ (N' : pm_M) (z : Int), N' = Mu [(67, pm_upd (pm_ct N 67) i z)] N → Lay N' → z = ((swN (ndA L i)).1 : Int) → Wp (d + 3) 98 2 [(2, ((65 : Nat) : Int)), (2, ((24 : Nat) : Int)), (0, (i : Int) + 1)] [] N' mc ms Q := fun N' z hN' l1 hz => by
        refine ih (i + 1) N' (by omega) l1 (by rw [hN']; exact fr.trans (Fr.mu _ _ rfl)) (fun k hk => ?_)
        rw [hN', Mu_ct]
        show pm_upd (pm_ct N 67) i z k = _
        by_cases e : k = i
        · rw [e, pm_upd_eq, if_pos (by omega), hz]
        · rw [pm_upd_ne e, hN k hk]
          by_cases e2 : k < i
          · rw [if_pos e2, if_pos (by omega)]
          · rw [if_neg e2, if_neg (by omega)]
      have go0 : x = 0 → Wp (d + 3) 98 2 [(2, ((65 : Nat) : Int)), (2, ((24 : Nat) : Int)), (0, (i : Int) + 1)] [] N mc ms Q := fun x0 => by
        refine ih (i + 1) N (by omega) lay fr (fun k hk => ?_)
        rw [hN k hk]
        by_cases e2 : k < i
        · rw [if_pos e2, if_pos (by omega)]
        · rw [if_neg e2]
          by_cases e3 : k = i
          · rw [if_pos (by omega), e3, es, if_pos x0, ← hx, x0]
          · rw [if_neg (by omega)]
      clear ih
      refine g_iload_n lk_98_2 rfl ?_
      refine g_aload_n lk_98_3 rfl ?_
      refine g_getfield lk_98_4 rfl (lay.on (by decide) rfl) (v := ((66 : Nat) : Int)) (lay.rf rfl) ?_
      refine m_getfield (u := []) (M := N) lk_98_7 rfl (lay.on (by decide) rfl) (v := (l : Int)) hct ?_
      refine g_icmp (t := 58) lk_98_10 rfl (by first | (unfold pm_inI; omega) | exact pm_and_in _ _ | exact pm_shr_in _ _ | exact pm_or_in _ _ | exact pm_xor_in _ _ | exact pm_shl_in _ _ | exact pm_cmp_in _ _ | exact pm_b8_in _ | (unfold pm_inI; split <;> omega)) (by first | (unfold pm_inI; omega) | exact pm_and_in _ _ | exact pm_shr_in _ _ | exact pm_or_in _ _ | exact pm_xor_in _ _ | exact pm_shl_in _ _ | exact pm_cmp_in _ _ | exact pm_b8_in _ | (unfold pm_inI; split <;> omega)) (fun h1 => ?_) (fun h1 => ?_)
      · replace h1 : (l : Int) ≤ (i : Int) := h1
        omega
      · replace h1 : ¬ ((l : Int) ≤ (i : Int)) := h1
        refine g_aload_n lk_98_13 rfl ?_
        refine g_getfield lk_98_14 rfl (lay.on (by decide) rfl) (v := ((66 : Nat) : Int)) (lay.rf rfl) ?_
        refine g_getfield lk_98_17 rfl (lay.on (by decide) rfl) (v := ((67 : Nat) : Int)) (lay.rf rfl) ?_
        refine g_iload_n lk_98_20 rfl ?_
        refine m_iaload (u := []) (M := N) lk_98_21 (lay.ay (by decide) rfl) (by omega) (j := i) (by omega) (v := (x : Int)) y1 ?_
        refine g_if (t := 52) lk_98_22 rfl (by first | (unfold pm_inI; omega) | exact pm_and_in _ _ | exact pm_shr_in _ _ | exact pm_or_in _ _ | exact pm_xor_in _ _ | exact pm_shl_in _ _ | exact pm_cmp_in _ _ | exact pm_b8_in _ | (unfold pm_inI; split <;> omega)) (fun h2 => ?_) (fun h2 => ?_)
        · replace h2 : (x : Int) = 0 := h2
          refine g_iinc (ls' := [(2, ((65 : Nat) : Int)), (2, ((24 : Nat) : Int)), (0, ((i : Int) + 1))]) lk_98_52 rfl rfl rfl ?_
          refine g_goto (t := 2) lk_98_55 rfl ?_
          exact go0 (by omega)
        · replace h2 : ¬ ((x : Int) = 0) := h2
          refine g_aload_n lk_98_25 rfl ?_
          refine g_getfield lk_98_26 rfl (lay.on (by decide) rfl) (v := ((66 : Nat) : Int)) (lay.rf rfl) ?_
          refine g_getfield lk_98_29 rfl (lay.on (by decide) rfl) (v := ((67 : Nat) : Int)) (lay.rf rfl) ?_
          refine g_iload_n lk_98_32 rfl ?_
          refine g_aload_n lk_98_33 rfl ?_
          refine g_getfield lk_98_34 rfl (lay.on (by decide) rfl) (v := ((66 : Nat) : Int)) (lay.rf rfl) ?_
          refine g_getfield lk_98_37 rfl (lay.on (by decide) rfl) (v := ((67 : Nat) : Int)) (lay.rf rfl) ?_
          refine g_iload_n lk_98_40 rfl ?_
          refine m_iaload (u := []) (M := N) lk_98_41 (lay.ay (by decide) rfl) (by omega) (j := i) (by omega) (v := (x : Int)) y1 ?_
          refine g_iconst lk_98_42 ?_
          refine g_icmp (t := 50) lk_98_43 rfl (by first | (unfold pm_inI; omega) | exact pm_and_in _ _ | exact pm_shr_in _ _ | exact pm_or_in _ _ | exact pm_xor_in _ _ | exact pm_shl_in _ _ | exact pm_cmp_in _ _ | exact pm_b8_in _ | (unfold pm_inI; split <;> omega)) (by first | (unfold pm_inI; omega) | exact pm_and_in _ _ | exact pm_shr_in _ _ | exact pm_or_in _ _ | exact pm_xor_in _ _ | exact pm_shl_in _ _ | exact pm_cmp_in _ _ | exact pm_b8_in _ | (unfold pm_inI; split <;> omega)) (fun h3 => ?_) (fun h3 => ?_)
          · replace h3 : ¬ (x : Int) = 1 := h3
            refine g_iconst lk_98_50 ?_
            have lay4 : Lay (Mu [(67, pm_upd (pm_ct N 67) i 1)] N) := lay.muA (l := []) (a := 67) (f := pm_upd (pm_ct N 67) i 1) rfl rfl
            refine m_iastore (u := []) (u' := [(67, pm_upd (pm_ct N 67) i 1)]) (M := N) lk_98_51 (lay.ay (by decide) rfl) (by omega) (j := i) (by omega) rfl ?_
            refine g_iinc (ls' := [(2, ((65 : Nat) : Int)), (2, ((24 : Nat) : Int)), (0, ((i : Int) + 1))]) lk_98_52 rfl rfl rfl ?_
            refine g_goto (t := 2) lk_98_55 rfl ?_
            exact go _ _ rfl lay4 (by rw [es, if_neg (by omega)]; omega)
          · replace h3 : ¬ (¬ (x : Int) = 1) := h3
            refine g_iconst lk_98_46 ?_
            refine g_goto (t := 51) lk_98_47 rfl ?_
            have lay5 : Lay (Mu [(67, pm_upd (pm_ct N 67) i 2)] N) := lay.muA (l := []) (a := 67) (f := pm_upd (pm_ct N 67) i 2) rfl rfl
            refine m_iastore (u := []) (u' := [(67, pm_upd (pm_ct N 67) i 2)]) (M := N) lk_98_51 (lay.ay (by decide) rfl) (by omega) (j := i) (by omega) rfl ?_
            refine g_iinc (ls' := [(2, ((65 : Nat) : Int)), (2, ((24 : Nat) : Int)), (0, ((i : Int) + 1))]) lk_98_52 rfl rfl rfl ?_
            refine g_goto (t := 2) lk_98_55 rfl ?_
            exact go _ _ rfl lay5 (by rw [es, if_neg (by omega)]; omega)
  show Wp (d + 3) 98 0 [(2, ((65 : Nat) : Int)), (2, ((24 : Nat) : Int)), (9, 0)] [] M mc ms Q
  refine g_iconst lk_98_0 ?_
  refine g_istore_n (ls' := [(2, ((65 : Nat) : Int)), (2, ((24 : Nat) : Int)), (0, 0)]) lk_98_1 rfl rfl ?_
  refine loop l 0 M (by omega) lay0 (Fr.refl _ _) (fun k hk => ?_)
  rw [if_neg (by omega)]; exact (hL0 k _ (ndA_get (by omega))).1
set_option maxHeartbeats 4000000 in
theorem c_Told_swapSides2 {d mc ms : Nat} {M : pm_M} (lay0 : Lay M) {T : Tab} (hT : TabOK T) (hM0 : TbAt M 24 T) {L : List Nd} {p dp : Nat → Nat} {T0 : Tab} (hX : TdAt M 76 T0 L p dp) :
    pm_E (d + 3) 98 [(2, ((76 : Nat) : Int)), (2, ((24 : Nat) : Int))] M mc ms (fun ρ M' => ρ = none ∧ Lay M' ∧ Fr [78, 81, 82, 83, 84, 85, 86] M M' ∧ TdAt M' 76 T (Lsw L) p dp) := by
  obtain ⟨Q, hQ⟩ : ∃ Q : pm_Q, Q = (fun ρ M' => ρ = none ∧ Lay M' ∧ Fr [78, 81, 82, 83, 84, 85, 86] M M' ∧ TdAt M' 76 T (Lsw L) p dp) := ⟨_, rfl⟩
  rw [← hQ]
  obtain ⟨tx, hct0, hL0, _⟩ := hX
  have txs := tx.sw
  obtain ⟨hD, hp, _⟩ := id tx
  have l31 := hD.2.1
  obtain ⟨l, hl⟩ : ∃ l, l = L.length := ⟨_, rfl⟩
  rw [← hl] at hct0 l31
  have loop : ∀ (n i : Nat) (N : pm_M), i + n = l → Lay N → Fr [78] M N → (∀ k, k < l → pm_ct N 78 k = if k < i then ((swN (ndA L k)).1 : Int) else ((ndA L k).1 : Int)) → Wp (d + 3) 98 2 [(2, ((76 : Nat) : Int)), (2, ((24 : Nat) : Int)), (0, (i : Int))] [] N mc ms Q := by
    intro n
    induction n with
    | zero =>
      intro i N hi lay fr hN
      have hct : pm_ct N 77 3 = (l : Int) := by rw [fr.ct (by decide)]; exact hct0
      have e : i = l := by omega
      rw [e] at hN ⊢
      have ndl : NdL N 78 79 80 (Lsw L) := fun k x hk => by
        have k1 : k < L.length := by
          have := (List.getElem?_eq_some_iff.mp hk).1
          rw [Lsw_len] at this; exact this
        have ex : x = swN (ndA L k) := by
          have := ndA_get (L := Lsw L) (k := k) (by rw [Lsw_len]; exact k1)
          rw [hk, ndA_sw] at this
          exact Option.some.inj this
        obtain ⟨_, x2, x3⟩ := hL0 k _ (ndA_get k1)
        rw [ex, hN k (by omega), if_pos (by omega), fr.ct (by decide), fr.ct (by decide)]
        exact ⟨rfl, x2, x3⟩
      have hctS : pm_ct N 77 3 = ((Lsw L).length : Int) := by rw [Lsw_len, ← hl]; exact hct
      have fo := c_Told_follow2 (d := d) (mc := 0) (ms := 0) lay hT (hM0.fr fr (by decide) (by decide)) txs.1 txs.2.1 hctS ndl
      refine g_iload_n lk_98_2 rfl ?_
      refine g_aload_n lk_98_3 rfl ?_
      refine g_getfield lk_98_4 rfl (lay.on (by decide) rfl) (v := ((77 : Nat) : Int)) (lay.rf rfl) ?_
      refine m_getfield (u := []) (M := N) lk_98_7 rfl (lay.on (by decide) rfl) (v := (l : Int)) hct ?_
      refine g_icmp (t := 58) lk_98_10 rfl (by first | (unfold pm_inI; omega) | exact pm_and_in _ _ | exact pm_shr_in _ _ | exact pm_or_in _ _ | exact pm_xor_in _ _ | exact pm_shl_in _ _ | exact pm_cmp_in _ _ | exact pm_b8_in _ | (unfold pm_inI; split <;> omega)) (by first | (unfold pm_inI; omega) | exact pm_and_in _ _ | exact pm_shr_in _ _ | exact pm_or_in _ _ | exact pm_xor_in _ _ | exact pm_shl_in _ _ | exact pm_cmp_in _ _ | exact pm_b8_in _ | (unfold pm_inI; split <;> omega)) (fun h1 => ?_) (fun h1 => ?_)
      · replace h1 : (l : Int) ≤ (l : Int) := h1
        refine g_aload_n lk_98_58 rfl ?_
        refine g_aload_n lk_98_59 rfl ?_
        refine g_virtual (p := 76) (Qc := _) lk_98_60 rfl (Nat.le_of_ble_eq_true rfl) rfl rfl (lay.on (by decide) rfl) (Nat.le_of_ble_eq_true rfl) (Nat.le_of_ble_eq_true rfl) (Nat.zero_le _) (Nat.zero_le _) (fo) ?_
        rintro _ K1 ⟨rfl, lay1, f1, c1⟩
        show Wp _ 98 63 [(2, ((76 : Nat) : Int)), (2, ((24 : Nat) : Int)), (0, (l : Int))] [] K1 _ _ _
        refine g_return lk_98_63 ?_
        rw [hQ]
        refine ⟨rfl, lay1, (fr.mono (fun a q => by simp at q; simp [q])).trans (f1.mono (fun a q => by simp at q ⊢; omega)), txs, ?_, ?_, c1⟩
        · rw [f1.ct (by decide)]; exact hctS
        · unfold NdL at ndl ⊢
          rw [f1.ct (by decide), f1.ct (by decide), f1.ct (by decide)]; exact ndl
      · replace h1 : ¬ ((l : Int) ≤ (l : Int)) := h1
        omega
    | succ n ih =>
      intro i N hi lay fr hN
      have hct : pm_ct N 77 3 = (l : Int) := by rw [fr.ct (by decide)]; exact hct0
      have a1 := (hD.2.2.2 i (by omega)).1
      have y1 := hN i (by omega)
      rw [if_neg (by omega)] at y1
      have es : (swN (ndA L i)).1 = if (ndA L i).1 = 0 then 0 else 3 - (ndA L i).1 := rfl
      obtain ⟨x, hx⟩ : ∃ x, x = (ndA L i).1 := ⟨_, rfl⟩
      rw [← hx] at y1 a1 es
      have go : ∀ (N' : pm_M) (z : Int), N' = Mu [(78, pm_upd (pm_ct N 78) i z)] N → Lay N' → z = ((swN (ndA L i)).1 : Int) → Wp (d + 3) 98 2 [(2, ((76 : Nat) : Int)), (2, ((24 : Nat) : Int)), (0, (i : Int) + 1)] [] N' mc ms Q := fun N' z hN' l1 hz => by
        refine ih (i + 1) N' (by omega) l1 (by rw [hN']; exact fr.trans (Fr.mu _ _ rfl)) (fun k hk => ?_)
        rw [hN', Mu_ct]
        show pm_upd (pm_ct N 78) i z k = _
        by_cases e : k = i
        · rw [e, pm_upd_eq, if_pos (by omega), hz]
        · rw [pm_upd_ne e, hN k hk]
          by_cases e2 : k < i
          · rw [if_pos e2, if_pos (by omega)]
          · rw [if_neg e2, if_neg (by omega)]
      have go0 : x = 0 → Wp (d + 3) 98 2 [(2, ((76 : Nat) : Int)), (2, ((24 : Nat) : Int)), (0, (i : Int) + 1)] [] N mc ms Q := fun x0 => by
        refine ih (i + 1) N (by omega) lay fr (fun k hk => ?_)
        rw [hN k hk]
        by_cases e2 : k < i
        · rw [if_pos e2, if_pos (by omega)]
        · rw [if_neg e2]
          by_cases e3 : k = i
          · rw [if_pos (by omega), e3, es, if_pos x0, ← hx, x0]
          · rw [if_neg (by omega)]
      clear ih
      refine g_iload_n lk_98_2 rfl ?_
      refine g_aload_n lk_98_3 rfl ?_
      refine g_getfield lk_98_4 rfl (lay.on (by decide) rfl) (v := ((77 : Nat) : Int)) (lay.rf rfl) ?_
      refine m_getfield (u := []) (M := N) lk_98_7 rfl (lay.on (by decide) rfl) (v := (l : Int)) hct ?_
      refine g_icmp (t := 58) lk_98_10 rfl (by first | (unfold pm_inI; omega) | exact pm_and_in _ _ | exact pm_shr_in _ _ | exact pm_or_in _ _ | exact pm_xor_in _ _ | exact pm_shl_in _ _ | exact pm_cmp_in _ _ | exact pm_b8_in _ | (unfold pm_inI; split <;> omega)) (by first | (unfold pm_inI; omega) | exact pm_and_in _ _ | exact pm_shr_in _ _ | exact pm_or_in _ _ | exact pm_xor_in _ _ | exact pm_shl_in _ _ | exact pm_cmp_in _ _ | exact pm_b8_in _ | (unfold pm_inI; split <;> omega)) (fun h1 => ?_) (fun h1 => ?_)
      · replace h1 : (l : Int) ≤ (i : Int) := h1
        omega
      · replace h1 : ¬ ((l : Int) ≤ (i : Int)) := h1
        refine g_aload_n lk_98_13 rfl ?_
        refine g_getfield lk_98_14 rfl (lay.on (by decide) rfl) (v := ((77 : Nat) : Int)) (lay.rf rfl) ?_
        refine g_getfield lk_98_17 rfl (lay.on (by decide) rfl) (v := ((78 : Nat) : Int)) (lay.rf rfl) ?_
        refine g_iload_n lk_98_20 rfl ?_
        refine m_iaload (u := []) (M := N) lk_98_21 (lay.ay (by decide) rfl) (by omega) (j := i) (by omega) (v := (x : Int)) y1 ?_
        refine g_if (t := 52) lk_98_22 rfl (by first | (unfold pm_inI; omega) | exact pm_and_in _ _ | exact pm_shr_in _ _ | exact pm_or_in _ _ | exact pm_xor_in _ _ | exact pm_shl_in _ _ | exact pm_cmp_in _ _ | exact pm_b8_in _ | (unfold pm_inI; split <;> omega)) (fun h2 => ?_) (fun h2 => ?_)
        · replace h2 : (x : Int) = 0 := h2
          refine g_iinc (ls' := [(2, ((76 : Nat) : Int)), (2, ((24 : Nat) : Int)), (0, ((i : Int) + 1))]) lk_98_52 rfl rfl rfl ?_
          refine g_goto (t := 2) lk_98_55 rfl ?_
          exact go0 (by omega)
        · replace h2 : ¬ ((x : Int) = 0) := h2
          refine g_aload_n lk_98_25 rfl ?_
          refine g_getfield lk_98_26 rfl (lay.on (by decide) rfl) (v := ((77 : Nat) : Int)) (lay.rf rfl) ?_
          refine g_getfield lk_98_29 rfl (lay.on (by decide) rfl) (v := ((78 : Nat) : Int)) (lay.rf rfl) ?_
          refine g_iload_n lk_98_32 rfl ?_
          refine g_aload_n lk_98_33 rfl ?_
          refine g_getfield lk_98_34 rfl (lay.on (by decide) rfl) (v := ((77 : Nat) : Int)) (lay.rf rfl) ?_
          refine g_getfield lk_98_37 rfl (lay.on (by decide) rfl) (v := ((78 : Nat) : Int)) (lay.rf rfl) ?_
          refine g_iload_n lk_98_40 rfl ?_
          refine m_iaload (u := []) (M := N) lk_98_41 (lay.ay (by decide) rfl) (by omega) (j := i) (by omega) (v := (x : Int)) y1 ?_
          refine g_iconst lk_98_42 ?_
          refine g_icmp (t := 50) lk_98_43 rfl (by first | (unfold pm_inI; omega) | exact pm_and_in _ _ | exact pm_shr_in _ _ | exact pm_or_in _ _ | exact pm_xor_in _ _ | exact pm_shl_in _ _ | exact pm_cmp_in _ _ | exact pm_b8_in _ | (unfold pm_inI; split <;> omega)) (by first | (unfold pm_inI; omega) | exact pm_and_in _ _ | exact pm_shr_in _ _ | exact pm_or_in _ _ | exact pm_xor_in _ _ | exact pm_shl_in _ _ | exact pm_cmp_in _ _ | exact pm_b8_in _ | (unfold pm_inI; split <;> omega)) (fun h3 => ?_) (fun h3 => ?_)
          · replace h3 : ¬ (x : Int) = 1 := h3
            refine g_iconst lk_98_50 ?_
            have lay4 : Lay (Mu [(78, pm_upd (pm_ct N 78) i 1)] N) := lay.muA (l := []) (a := 78) (f := pm_upd (pm_ct N 78) i 1) rfl rfl
            refine m_iastore (u := []) (u' := [(78, pm_upd (pm_ct N 78) i 1)]) (M := N) lk_98_51 (lay.ay (by decide) rfl) (by omega) (j := i) (by omega) rfl ?_
            refine g_iinc (ls' := [(2, ((76 : Nat) : Int)), (2, ((24 : Nat) : Int)), (0, ((i : Int) + 1))]) lk_98_52 rfl rfl rfl ?_
            refine g_goto (t := 2) lk_98_55 rfl ?_
            exact go _ _ rfl lay4 (by rw [es, if_neg (by omega)]; omega)
          · replace h3 : ¬ (¬ (x : Int) = 1) := h3
            refine g_iconst lk_98_46 ?_
            refine g_goto (t := 51) lk_98_47 rfl ?_
            have lay5 : Lay (Mu [(78, pm_upd (pm_ct N 78) i 2)] N) := lay.muA (l := []) (a := 78) (f := pm_upd (pm_ct N 78) i 2) rfl rfl
            refine m_iastore (u := []) (u' := [(78, pm_upd (pm_ct N 78) i 2)]) (M := N) lk_98_51 (lay.ay (by decide) rfl) (by omega) (j := i) (by omega) rfl ?_
            refine g_iinc (ls' := [(2, ((76 : Nat) : Int)), (2, ((24 : Nat) : Int)), (0, ((i : Int) + 1))]) lk_98_52 rfl rfl rfl ?_
            refine g_goto (t := 2) lk_98_55 rfl ?_
            exact go _ _ rfl lay5 (by rw [es, if_neg (by omega)]; omega)
  show Wp (d + 3) 98 0 [(2, ((76 : Nat) : Int)), (2, ((24 : Nat) : Int)), (9, 0)] [] M mc ms Q
  refine g_iconst lk_98_0 ?_
  refine g_istore_n (ls' := [(2, ((76 : Nat) : Int)), (2, ((24 : Nat) : Int)), (0, 0)]) lk_98_1 rfl rfl ?_
  refine loop l 0 M (by omega) lay0 (Fr.refl _ _) (fun k hk => ?_)
  rw [if_neg (by omega)]; exact (hL0 k _ (ndA_get (by omega))).1
set_option maxHeartbeats 4000000 in
theorem c_Told_swapSides3 {d mc ms : Nat} {M : pm_M} (lay0 : Lay M) {T : Tab} (hT : TabOK T) (hM0 : TbAt M 24 T) {L : List Nd} {p dp : Nat → Nat} {T0 : Tab} (hX : TdAt M 87 T0 L p dp) :
    pm_E (d + 3) 98 [(2, ((87 : Nat) : Int)), (2, ((24 : Nat) : Int))] M mc ms (fun ρ M' => ρ = none ∧ Lay M' ∧ Fr [89, 92, 93, 94, 95, 96, 97] M M' ∧ TdAt M' 87 T (Lsw L) p dp) := by
  obtain ⟨Q, hQ⟩ : ∃ Q : pm_Q, Q = (fun ρ M' => ρ = none ∧ Lay M' ∧ Fr [89, 92, 93, 94, 95, 96, 97] M M' ∧ TdAt M' 87 T (Lsw L) p dp) := ⟨_, rfl⟩
  rw [← hQ]
  obtain ⟨tx, hct0, hL0, _⟩ := hX
  have txs := tx.sw
  obtain ⟨hD, hp, _⟩ := id tx
  have l31 := hD.2.1
  obtain ⟨l, hl⟩ : ∃ l, l = L.length := ⟨_, rfl⟩
  rw [← hl] at hct0 l31
  have loop : ∀ (n i : Nat) (N : pm_M), i + n = l → Lay N → Fr [89] M N → (∀ k, k < l → pm_ct N 89 k = if k < i then ((swN (ndA L k)).1 : Int) else ((ndA L k).1 : Int)) → Wp (d + 3) 98 2 [(2, ((87 : Nat) : Int)), (2, ((24 : Nat) : Int)), (0, (i : Int))] [] N mc ms Q := by
    intro n
    induction n with
    | zero =>
      intro i N hi lay fr hN
      have hct : pm_ct N 88 3 = (l : Int) := by rw [fr.ct (by decide)]; exact hct0
      have e : i = l := by omega
      rw [e] at hN ⊢
      have ndl : NdL N 89 90 91 (Lsw L) := fun k x hk => by
        have k1 : k < L.length := by
          have := (List.getElem?_eq_some_iff.mp hk).1
          rw [Lsw_len] at this; exact this
        have ex : x = swN (ndA L k) := by
          have := ndA_get (L := Lsw L) (k := k) (by rw [Lsw_len]; exact k1)
          rw [hk, ndA_sw] at this
          exact Option.some.inj this
        obtain ⟨_, x2, x3⟩ := hL0 k _ (ndA_get k1)
        rw [ex, hN k (by omega), if_pos (by omega), fr.ct (by decide), fr.ct (by decide)]
        exact ⟨rfl, x2, x3⟩
      have hctS : pm_ct N 88 3 = ((Lsw L).length : Int) := by rw [Lsw_len, ← hl]; exact hct
      have fo := c_Told_follow3 (d := d) (mc := 0) (ms := 0) lay hT (hM0.fr fr (by decide) (by decide)) txs.1 txs.2.1 hctS ndl
      refine g_iload_n lk_98_2 rfl ?_
      refine g_aload_n lk_98_3 rfl ?_
      refine g_getfield lk_98_4 rfl (lay.on (by decide) rfl) (v := ((88 : Nat) : Int)) (lay.rf rfl) ?_
      refine m_getfield (u := []) (M := N) lk_98_7 rfl (lay.on (by decide) rfl) (v := (l : Int)) hct ?_
      refine g_icmp (t := 58) lk_98_10 rfl (by first | (unfold pm_inI; omega) | exact pm_and_in _ _ | exact pm_shr_in _ _ | exact pm_or_in _ _ | exact pm_xor_in _ _ | exact pm_shl_in _ _ | exact pm_cmp_in _ _ | exact pm_b8_in _ | (unfold pm_inI; split <;> omega)) (by first | (unfold pm_inI; omega) | exact pm_and_in _ _ | exact pm_shr_in _ _ | exact pm_or_in _ _ | exact pm_xor_in _ _ | exact pm_shl_in _ _ | exact pm_cmp_in _ _ | exact pm_b8_in _ | (unfold pm_inI; split <;> omega)) (fun h1 => ?_) (fun h1 => ?_)
      · replace h1 : (l : Int) ≤ (l : Int) := h1
        refine g_aload_n lk_98_58 rfl ?_
        refine g_aload_n lk_98_59 rfl ?_
        refine g_virtual (p := 87) (Qc := _) lk_98_60 rfl (Nat.le_of_ble_eq_true rfl) rfl rfl (lay.on (by decide) rfl) (Nat.le_of_ble_eq_true rfl) (Nat.le_of_ble_eq_true rfl) (Nat.zero_le _) (Nat.zero_le _) (fo) ?_
        rintro _ K1 ⟨rfl, lay1, f1, c1⟩
        show Wp _ 98 63 [(2, ((87 : Nat) : Int)), (2, ((24 : Nat) : Int)), (0, (l : Int))] [] K1 _ _ _
        refine g_return lk_98_63 ?_
        rw [hQ]
        refine ⟨rfl, lay1, (fr.mono (fun a q => by simp at q; simp [q])).trans (f1.mono (fun a q => by simp at q ⊢; omega)), txs, ?_, ?_, c1⟩
        · rw [f1.ct (by decide)]; exact hctS
        · unfold NdL at ndl ⊢
          rw [f1.ct (by decide), f1.ct (by decide), f1.ct (by decide)]; exact ndl
      · replace h1 : ¬ ((l : Int) ≤ (l : Int)) := h1
        omega
    | succ n ih =>
      intro i N hi lay fr hN
      have hct : pm_ct N 88 3 = (l : Int) := by rw [fr.ct (by decide)]; exact hct0
      have a1 := (hD.2.2.2 i (by omega)).1
      have y1 := hN i (by omega)
      rw [if_neg (by omega)] at y1
      have es : (swN (ndA L i)).1 = if (ndA L i).1 = 0 then 0 else 3 - (ndA L i).1 := rfl
      obtain ⟨x, hx⟩ : ∃ x, x = (ndA L i).1 := ⟨_, rfl⟩
      rw [← hx] at y1 a1 es
      have go : ∀ (N' : pm_M) (z : Int), N' = Mu [(89, pm_upd (pm_ct N 89) i z)] N → Lay N' → z = ((swN (ndA L i)).1 : Int) → Wp (d + 3) 98 2 [(2, ((87 : Nat) : Int)), (2, ((24 : Nat) : Int)), (0, (i : Int) + 1)] [] N' mc ms Q := fun N' z hN' l1 hz => by
        refine ih (i + 1) N' (by omega) l1 (by rw [hN']; exact fr.trans (Fr.mu _ _ rfl)) (fun k hk => ?_)
        rw [hN', Mu_ct]
        show pm_upd (pm_ct N 89) i z k = _
        by_cases e : k = i
        · rw [e, pm_upd_eq, if_pos (by omega), hz]
        · rw [pm_upd_ne e, hN k hk]
          by_cases e2 : k < i
          · rw [if_pos e2, if_pos (by omega)]
          · rw [if_neg e2, if_neg (by omega)]
      have go0 : x = 0 → Wp (d + 3) 98 2 [(2, ((87 : Nat) : Int)), (2, ((24 : Nat) : Int)), (0, (i : Int) + 1)] [] N mc ms Q := fun x0 => by
        refine ih (i + 1) N (by omega) lay fr (fun k hk => ?_)
        rw [hN k hk]
        by_cases e2 : k < i
        · rw [if_pos e2, if_pos (by omega)]
        · rw [if_neg e2]
          by_cases e3 : k = i
          · rw [if_pos (by omega), e3, es, if_pos x0, ← hx, x0]
          · rw [if_neg (by omega)]
      clear ih
      refine g_iload_n lk_98_2 rfl ?_
      refine g_aload_n lk_98_3 rfl ?_
      refine g_getfield lk_98_4 rfl (lay.on (by decide) rfl) (v := ((88 : Nat) : Int)) (lay.rf rfl) ?_
      refine m_getfield (u := []) (M := N) lk_98_7 rfl (lay.on (by decide) rfl) (v := (l : Int)) hct ?_
      refine g_icmp (t := 58) lk_98_10 rfl (by first | (unfold pm_inI; omega) | exact pm_and_in _ _ | exact pm_shr_in _ _ | exact pm_or_in _ _ | exact pm_xor_in _ _ | exact pm_shl_in _ _ | exact pm_cmp_in _ _ | exact pm_b8_in _ | (unfold pm_inI; split <;> omega)) (by first | (unfold pm_inI; omega) | exact pm_and_in _ _ | exact pm_shr_in _ _ | exact pm_or_in _ _ | exact pm_xor_in _ _ | exact pm_shl_in _ _ | exact pm_cmp_in _ _ | exact pm_b8_in _ | (unfold pm_inI; split <;> omega)) (fun h1 => ?_) (fun h1 => ?_)
      · replace h1 : (l : Int) ≤ (i : Int) := h1
        omega
      · replace h1 : ¬ ((l : Int) ≤ (i : Int)) := h1
        refine g_aload_n lk_98_13 rfl ?_
        refine g_getfield lk_98_14 rfl (lay.on (by decide) rfl) (v := ((88 : Nat) : Int)) (lay.rf rfl) ?_
        refine g_getfield lk_98_17 rfl (lay.on (by decide) rfl) (v := ((89 : Nat) : Int)) (lay.rf rfl) ?_
        refine g_iload_n lk_98_20 rfl ?_
        refine m_iaload (u := []) (M := N) lk_98_21 (lay.ay (by decide) rfl) (by omega) (j := i) (by omega) (v := (x : Int)) y1 ?_
        refine g_if (t := 52) lk_98_22 rfl (by first | (unfold pm_inI; omega) | exact pm_and_in _ _ | exact pm_shr_in _ _ | exact pm_or_in _ _ | exact pm_xor_in _ _ | exact pm_shl_in _ _ | exact pm_cmp_in _ _ | exact pm_b8_in _ | (unfold pm_inI; split <;> omega)) (fun h2 => ?_) (fun h2 => ?_)
        · replace h2 : (x : Int) = 0 := h2
          refine g_iinc (ls' := [(2, ((87 : Nat) : Int)), (2, ((24 : Nat) : Int)), (0, ((i : Int) + 1))]) lk_98_52 rfl rfl rfl ?_
          refine g_goto (t := 2) lk_98_55 rfl ?_
          exact go0 (by omega)
        · replace h2 : ¬ ((x : Int) = 0) := h2
          refine g_aload_n lk_98_25 rfl ?_
          refine g_getfield lk_98_26 rfl (lay.on (by decide) rfl) (v := ((88 : Nat) : Int)) (lay.rf rfl) ?_
          refine g_getfield lk_98_29 rfl (lay.on (by decide) rfl) (v := ((89 : Nat) : Int)) (lay.rf rfl) ?_
          refine g_iload_n lk_98_32 rfl ?_
          refine g_aload_n lk_98_33 rfl ?_
          refine g_getfield lk_98_34 rfl (lay.on (by decide) rfl) (v := ((88 : Nat) : Int)) (lay.rf rfl) ?_
          refine g_getfield lk_98_37 rfl (lay.on (by decide) rfl) (v := ((89 : Nat) : Int)) (lay.rf rfl) ?_
          refine g_iload_n lk_98_40 rfl ?_
          refine m_iaload (u := []) (M := N) lk_98_41 (lay.ay (by decide) rfl) (by omega) (j := i) (by omega) (v := (x : Int)) y1 ?_
          refine g_iconst lk_98_42 ?_
          refine g_icmp (t := 50) lk_98_43 rfl (by first | (unfold pm_inI; omega) | exact pm_and_in _ _ | exact pm_shr_in _ _ | exact pm_or_in _ _ | exact pm_xor_in _ _ | exact pm_shl_in _ _ | exact pm_cmp_in _ _ | exact pm_b8_in _ | (unfold pm_inI; split <;> omega)) (by first | (unfold pm_inI; omega) | exact pm_and_in _ _ | exact pm_shr_in _ _ | exact pm_or_in _ _ | exact pm_xor_in _ _ | exact pm_shl_in _ _ | exact pm_cmp_in _ _ | exact pm_b8_in _ | (unfold pm_inI; split <;> omega)) (fun h3 => ?_) (fun h3 => ?_)
          · replace h3 : ¬ (x : Int) = 1 := h3
            refine g_iconst lk_98_50 ?_
            have lay4 : Lay (Mu [(89, pm_upd (pm_ct N 89) i 1)] N) := lay.muA (l := []) (a := 89) (f := pm_upd (pm_ct N 89) i 1) rfl rfl
            refine m_iastore (u := []) (u' := [(89, pm_upd (pm_ct N 89) i 1)]) (M := N) lk_98_51 (lay.ay (by decide) rfl) (by omega) (j := i) (by omega) rfl ?_
            refine g_iinc (ls' := [(2, ((87 : Nat) : Int)), (2, ((24 : Nat) : Int)), (0, ((i : Int) + 1))]) lk_98_52 rfl rfl rfl ?_
            refine g_goto (t := 2) lk_98_55 rfl ?_
            exact go _ _ rfl lay4 (by rw [es, if_neg (by omega)]; omega)
          · replace h3 : ¬ (¬ (x : Int) = 1) := h3
            refine g_iconst lk_98_46 ?_
            refine g_goto (t := 51) lk_98_47 rfl ?_
            have lay5 : Lay (Mu [(89, pm_upd (pm_ct N 89) i 2)] N) := lay.muA (l := []) (a := 89) (f := pm_upd (pm_ct N 89) i 2) rfl rfl
            refine m_iastore (u := []) (u' := [(89, pm_upd (pm_ct N 89) i 2)]) (M := N) lk_98_51 (lay.ay (by decide) rfl) (by omega) (j := i) (by omega) rfl ?_
            refine g_iinc (ls' := [(2, ((87 : Nat) : Int)), (2, ((24 : Nat) : Int)), (0, ((i : Int) + 1))]) lk_98_52 rfl rfl rfl ?_
            refine g_goto (t := 2) lk_98_55 rfl ?_
            exact go _ _ rfl lay5 (by rw [es, if_neg (by omega)]; omega)
  show Wp (d + 3) 98 0 [(2, ((87 : Nat) : Int)), (2, ((24 : Nat) : Int)), (9, 0)] [] M mc ms Q
  refine g_iconst lk_98_0 ?_
  refine g_istore_n (ls' := [(2, ((87 : Nat) : Int)), (2, ((24 : Nat) : Int)), (0, 0)]) lk_98_1 rfl rfl ?_
  refine loop l 0 M (by omega) lay0 (Fr.refl _ _) (fun k hk => ?_)
  rw [if_neg (by omega)]; exact (hL0 k _ (ndA_get (by omega))).1
