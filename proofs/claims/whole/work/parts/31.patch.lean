/-! ===== Patches: take, openColumns, openRows, ownColumns, ownCells ===== -/
def PaAt (M : pm_M) (T : Tab) (v : Nat) : Prop := ∀ r, r < tR T → pm_ct M 29 r = ((oRow T r v (tC T) : Nat) : Int) ∧ pm_ct M 30 r = ((uRow T r v : Nat) : Int)
theorem mu_take {M : pm_M} {f g f' g' : Nat → Int} : Mu [(29, f'), (30, g')] (Mu [(29, f), (30, g)] M) = Mu [(29, f'), (30, g')] M := by
  rw [Mu_aus]; rfl
set_option maxHeartbeats 4000000 in
theorem c_Patches_take {d mc ms : Nat} {M : pm_M} (lay0 : Lay M) {T : Tab} (hT : TabOK T) (hM0 : TbAt M 24 T) {v : Nat} (hv : v < 11) :
    pm_E (d + 3) 41 [(2, ((28 : Nat) : Int)), (0, (v : Int))] M mc ms (fun ρ M' => ρ = none ∧ ∃ f g, M' = Mu [(29, f), (30, g)] M ∧ Lay M' ∧ PaAt M' T v) := by
  obtain ⟨Q, hQ⟩ : ∃ Q : pm_Q, Q = (fun ρ M' => ρ = none ∧ ∃ f g, M' = Mu [(29, f), (30, g)] M ∧ Lay M' ∧ PaAt M' T v) := ⟨_, rfl⟩
  rw [← hQ]
  have ht : (24 : Nat) = 4 ∨ (24 : Nat) = 24 := Or.inr rfl
  have hR := hT.1
  have loop : ∀ (n r : Nat) (f g : Nat → Int) (N : pm_M), r + n = tR T → N = Mu [(29, f), (30, g)] M → Lay N → (∀ i, i < r → pm_ct N 29 i = ((oRow T i v (tC T) : Nat) : Int) ∧ pm_ct N 30 i = ((uRow T i v : Nat) : Int)) → Wp (d + 3) 41 2 [(2, ((28 : Nat) : Int)), (0, (v : Int)), (0, (r : Int))] [] N mc ms Q := by
    intro n
    induction n with
    | zero =>
      intro r f g N hr hN lay hp
      have hM : TbAt N 24 T := by rw [hN]; exact hM0
      refine g_iload_n lk_41_2 rfl ?_
      refine g_aload_n lk_41_3 rfl ?_
      refine g_getfield lk_41_4 rfl (lay.on (by decide) rfl) (v := ((24 : Nat) : Int)) (lay.rf rfl) ?_
      refine m_getfield (u := []) (M := N) lk_41_7 rfl (lay.on (by decide) rfl) (v := (tR T : Int)) hM.1 ?_
      refine g_icmp (t := 49) lk_41_10 rfl (by first | (unfold pm_inI; omega) | exact pm_and_in _ _ | exact pm_shr_in _ _ | exact pm_or_in _ _ | exact pm_xor_in _ _ | exact pm_shl_in _ _ | exact pm_cmp_in _ _ | exact pm_b8_in _ | (unfold pm_inI; split <;> omega)) (by first | (unfold pm_inI; omega) | exact pm_and_in _ _ | exact pm_shr_in _ _ | exact pm_or_in _ _ | exact pm_xor_in _ _ | exact pm_shl_in _ _ | exact pm_cmp_in _ _ | exact pm_b8_in _ | (unfold pm_inI; split <;> omega)) (fun h1 => ?_) (fun h1 => ?_)
      · replace h1 : (tR T : Int) ≤ (r : Int) := h1
        refine g_return lk_41_49 ?_
        rw [hQ]
        exact ⟨rfl, f, g, hN, lay, fun i hi => hp i (by omega)⟩
      · replace h1 : ¬ ((tR T : Int) ≤ (r : Int)) := h1
        refine g_aload_n lk_41_13 rfl ?_
        refine g_getfield lk_41_14 rfl (lay.on (by decide) rfl) (v := ((29 : Nat) : Int)) (lay.rf rfl) ?_
        refine g_iload_n lk_41_17 rfl ?_
        refine g_aload_n lk_41_18 rfl ?_
        refine g_getfield lk_41_19 rfl (lay.on (by decide) rfl) (v := ((24 : Nat) : Int)) (lay.rf rfl) ?_
        refine g_iload_n lk_41_22 rfl ?_
        refine g_iload_n lk_41_23 rfl ?_
        omega
    | succ n ih =>
      intro r f g N hr hN lay hp
      have hM : TbAt N 24 T := by rw [hN]; exact hM0
      refine g_iload_n lk_41_2 rfl ?_
      refine g_aload_n lk_41_3 rfl ?_
      refine g_getfield lk_41_4 rfl (lay.on (by decide) rfl) (v := ((24 : Nat) : Int)) (lay.rf rfl) ?_
      refine m_getfield (u := []) (M := N) lk_41_7 rfl (lay.on (by decide) rfl) (v := (tR T : Int)) hM.1 ?_
      refine g_icmp (t := 49) lk_41_10 rfl (by first | (unfold pm_inI; omega) | exact pm_and_in _ _ | exact pm_shr_in _ _ | exact pm_or_in _ _ | exact pm_xor_in _ _ | exact pm_shl_in _ _ | exact pm_cmp_in _ _ | exact pm_b8_in _ | (unfold pm_inI; split <;> omega)) (by first | (unfold pm_inI; omega) | exact pm_and_in _ _ | exact pm_shr_in _ _ | exact pm_or_in _ _ | exact pm_xor_in _ _ | exact pm_shl_in _ _ | exact pm_cmp_in _ _ | exact pm_b8_in _ | (unfold pm_inI; split <;> omega)) (fun h1 => ?_) (fun h1 => ?_)
      · replace h1 : (tR T : Int) ≤ (r : Int) := h1
        refine g_return lk_41_49 ?_
        omega
      · replace h1 : ¬ ((tR T : Int) ≤ (r : Int)) := h1
        refine g_aload_n lk_41_13 rfl ?_
        refine g_getfield lk_41_14 rfl (lay.on (by decide) rfl) (v := ((29 : Nat) : Int)) (lay.rf rfl) ?_
        refine g_iload_n lk_41_17 rfl ?_
        refine g_aload_n lk_41_18 rfl ?_
        refine g_getfield lk_41_19 rfl (lay.on (by decide) rfl) (v := ((24 : Nat) : Int)) (lay.rf rfl) ?_
        refine g_iload_n lk_41_22 rfl ?_
        refine g_iload_n lk_41_23 rfl ?_
        refine g_virtual (p := 24) (Qc := _) lk_41_24 rfl (Nat.le_of_ble_eq_true rfl) rfl rfl (lay.on (by decide) rfl) (Nat.le_of_ble_eq_true rfl) (Nat.le_of_ble_eq_true rfl) (Nat.zero_le _) (Nat.zero_le _) (c_Table_columnsOf lay ht hT hM (by omega) (by omega)) ?_
        rintro _ N2 ⟨rfl, hN2⟩
        rw [hN2]
        show Wp _ 41 27 [(2, ((28 : Nat) : Int)), (0, (v : Int)), (0, (r : Int))] [(0, ((oRow T r v (tC T) : Nat) : Int)), (0, (r : Int)), (2, ((29 : Nat) : Int))] N _ _ _
        have lay3 : Lay (Mu [(29, pm_upd (pm_ct N 29) r ((oRow T r v (tC T) : Nat) : Int))] N) := lay.muA (l := []) (a := 29) (f := pm_upd (pm_ct N 29) r ((oRow T r v (tC T) : Nat) : Int)) rfl rfl
        refine m_iastore (u := []) (u' := [(29, pm_upd (pm_ct N 29) r ((oRow T r v (tC T) : Nat) : Int))]) (M := N) lk_41_27 (lay.ay (by decide) rfl) (by omega) (j := r) (by omega) rfl ?_
        refine g_aload_n lk_41_28 rfl ?_
        refine g_getfield lk_41_29 rfl (lay3.on (by decide) rfl) (v := ((30 : Nat) : Int)) (lay3.rf rfl) ?_
        refine g_iload_n lk_41_32 rfl ?_
        refine g_aload_n lk_41_33 rfl ?_
        refine g_getfield lk_41_34 rfl (lay3.on (by decide) rfl) (v := ((24 : Nat) : Int)) (lay3.rf rfl) ?_
        refine g_iload_n lk_41_37 rfl ?_
        refine g_iload_n lk_41_38 rfl ?_
        refine g_virtual (p := 24) (Qc := _) lk_41_39 rfl (Nat.le_of_ble_eq_true rfl) rfl rfl (lay3.on (by decide) rfl) (Nat.le_of_ble_eq_true rfl) (Nat.le_of_ble_eq_true rfl) (Nat.zero_le _) (Nat.zero_le _) (c_Table_columnsUnlike lay3 ht hT (show TbAt (Mu [(29, pm_upd (pm_ct N 29) r ((oRow T r v (tC T) : Nat) : Int))] N) 24 T from hM) (by omega) (by omega)) ?_
        rintro _ N4 ⟨rfl, hN4⟩
        rw [hN4]
        show Wp _ 41 42 [(2, ((28 : Nat) : Int)), (0, (v : Int)), (0, (r : Int))] [(0, ((uRow T r v : Nat) : Int)), (0, (r : Int)), (2, ((30 : Nat) : Int))] (Mu [(29, pm_upd (pm_ct N 29) r ((oRow T r v (tC T) : Nat) : Int))] N) _ _ _
        have lay5 : Lay (Mu [(29, pm_upd (pm_ct N 29) r ((oRow T r v (tC T) : Nat) : Int)), (30, pm_upd (pm_ct N 30) r ((uRow T r v : Nat) : Int))] N) := lay3.muA (l := [(29, pm_upd (pm_ct N 29) r ((oRow T r v (tC T) : Nat) : Int))]) (a := 30) (f := pm_upd (pm_ct N 30) r ((uRow T r v : Nat) : Int)) rfl rfl
        refine m_iastore (u := [(29, pm_upd (pm_ct N 29) r ((oRow T r v (tC T) : Nat) : Int))]) (u' := [(29, pm_upd (pm_ct N 29) r ((oRow T r v (tC T) : Nat) : Int)), (30, pm_upd (pm_ct N 30) r ((uRow T r v : Nat) : Int))]) (M := N) lk_41_42 (lay3.ay (by decide) rfl) (by omega) (j := r) (by omega) rfl ?_
        refine g_iinc (ls' := [(2, ((28 : Nat) : Int)), (0, (v : Int)), (0, ((r : Int) + 1))]) lk_41_43 rfl rfl rfl ?_
        refine g_goto (t := 2) lk_41_46 rfl ?_
        refine ih (r + 1) _ _ _ (by omega) (by rw [hN, mu_take]) lay5 (fun i hi => ?_)
        rw [Mu_ct, Mu_ct]
        show pm_upd (pm_ct N 29) r _ i = _ ∧ pm_upd (pm_ct N 30) r _ i = _
        unfold pm_upd
        by_cases h : i = r
        · subst h; simp
        · rw [if_neg h, if_neg h]; exact hp i (by omega)
  show Wp (d + 3) 41 0 [(2, ((28 : Nat) : Int)), (0, (v : Int)), (9, 0)] [] M mc ms Q
  have hM := hM0
  refine g_iconst lk_41_0 ?_
  refine g_istore_n (ls' := [(2, ((28 : Nat) : Int)), (0, (v : Int)), (0, 0)]) lk_41_1 rfl rfl ?_
  refine loop (tR T) 0 (pm_ct M 29) (pm_ct M 30) M (by omega) ?_ lay0 (fun i hi => absurd hi (by omega))
  refine pm_M_ext rfl (fun a => (Mu_kd _ _ _).symm) (fun a => (Mu_ln _ _ _).symm) (fun a => ?_)
  rw [Mu_ct]
  show _ = if 29 = a then _ else if 30 = a then _ else _
  split
  · next h => rw [← h]
  · split
    · next h => rw [← h]
    · rfl
/-- rows and their columns with another value -/
def sh (T : Tab) (rs v : Nat) (n : Nat) : Nat := (List.range n).foldl (fun a r => if rs.testBit r then a ||| uRow T r v else a) 0
theorem sh_s (T : Tab) (rs v n : Nat) : sh T rs v (n + 1) = if rs.testBit n then sh T rs v n ||| uRow T n v else sh T rs v n := fo_succ _ _ _
theorem sh_64 {T : Tab} (hT : TabOK T) (rs v : Nat) : ∀ n, sh T rs v n < 64
  | 0 => (by decide : 0 < 64)
  | n + 1 => by
    have h := sh_64 hT rs v n
    rw [sh_s]
    split
    · exact Nat.or_lt_two_pow (n := 6) h (uRow_64 hT n v)
    · exact h
theorem sh_bit (T : Tab) (rs v : Nat) (c : Nat) : ∀ n, (sh T rs v n).testBit c = true ↔ ∃ r, r < n ∧ rs.testBit r = true ∧ (uRow T r v).testBit c = true
  | 0 => by
    constructor
    · intro h; rw [show sh T rs v 0 = 0 from rfl, Nat.zero_testBit] at h; cases h
    · rintro ⟨r, hr, -⟩; omega
  | n + 1 => by
    rw [sh_s]
    have ih := sh_bit T rs v c n
    by_cases hn : rs.testBit n = true
    · rw [if_pos hn, Nat.testBit_or, Bool.or_eq_true, ih]
      constructor
      · rintro (⟨r, h1, h2⟩ | h)
        · exact ⟨r, by omega, h2⟩
        · exact ⟨n, by omega, hn, h⟩
      · rintro ⟨r, h1, h2, h3⟩
        by_cases h : r = n
        · subst h; exact Or.inr h3
        · exact Or.inl ⟨r, by omega, h2, h3⟩
    · rw [if_neg hn, ih]
      constructor
      · rintro ⟨r, h1, h2⟩; exact ⟨r, by omega, h2⟩
      · rintro ⟨r, h1, h2, h3⟩
        by_cases h : r = n
        · subst h; exact absurd h2 hn
        · exact ⟨r, by omega, h2, h3⟩
/-- the columns that have no other value in the rows -/
def oC (T : Tab) (rs v : Nat) : Nat := sDif (2 ^ tC T - 1) (sh T rs v (tR T))
theorem oC_64 {T : Tab} (hT : TabOK T) (rs v : Nat) : oC T rs v < 64 := Nat.lt_of_le_of_lt (sDif_le _ _) (tC_64 hT)
set_option maxHeartbeats 4000000 in
theorem c_Patches_openColumns {d mc ms : Nat} {M : pm_M} (lay : Lay M) {T : Tab} (hT : TabOK T) (hM : TbAt M 24 T) {v rs : Nat} (hP : PaAt M T v) (hrs : rs < 64) :
    pm_E (d + 1) 42 [(2, ((28 : Nat) : Int)), (0, (rs : Int))] M mc ms (fun ρ M' => ρ = some (0, ((oC T rs v : Nat) : Int)) ∧ M' = M) := by
  obtain ⟨Q, hQ⟩ : ∃ Q : pm_Q, Q = (fun ρ M' => ρ = some (0, ((oC T rs v : Nat) : Int)) ∧ M' = M) := ⟨_, rfl⟩
  rw [← hQ]
  have ht : (24 : Nat) = 4 ∨ (24 : Nat) = 24 := Or.inr rfl
  have hR := hT.1
  have loop : ∀ (n r : Nat), r + n = tR T → Wp (d + 1) 42 4 [(2, ((28 : Nat) : Int)), (0, (rs : Int)), (0, ((sh T rs v r : Nat) : Int)), (0, (r : Int))] [] M mc ms Q := by
    intro n
    induction n with
    | zero =>
      intro r hr
      have k1 := sh_64 hT rs v (tR T)
      have k2 := tC_64 hT
      have er : r = tR T := by omega
      refine g_iload_n lk_42_4 rfl ?_
      refine g_aload_n lk_42_5 rfl ?_
      refine g_getfield lk_42_6 rfl (lay.on (by decide) rfl) (v := ((24 : Nat) : Int)) (lay.rf rfl) ?_
      refine m_getfield (u := []) (M := M) lk_42_9 rfl (lay.on (by decide) rfl) (v := (tR T : Int)) hM.1 ?_
      refine g_icmp (t := 42) lk_42_12 rfl (by first | (unfold pm_inI; omega) | exact pm_and_in _ _ | exact pm_shr_in _ _ | exact pm_or_in _ _ | exact pm_xor_in _ _ | exact pm_shl_in _ _ | exact pm_cmp_in _ _ | exact pm_b8_in _ | (unfold pm_inI; split <;> omega)) (by first | (unfold pm_inI; omega) | exact pm_and_in _ _ | exact pm_shr_in _ _ | exact pm_or_in _ _ | exact pm_xor_in _ _ | exact pm_shl_in _ _ | exact pm_cmp_in _ _ | exact pm_b8_in _ | (unfold pm_inI; split <;> omega)) (fun h1 => ?_) (fun h1 => ?_)
      · replace h1 : (tR T : Int) ≤ (r : Int) := h1
        refine g_aload_n lk_42_42 rfl ?_
        refine g_getfield lk_42_43 rfl (lay.on (by decide) rfl) (v := ((24 : Nat) : Int)) (lay.rf rfl) ?_
        refine g_virtual (p := 24) (Qc := _) lk_42_46 rfl (Nat.le_of_ble_eq_true rfl) rfl rfl (lay.on (by decide) rfl) (Nat.le_of_ble_eq_true rfl) (Nat.le_of_ble_eq_true rfl) (Nat.zero_le _) (Nat.zero_le _) (c_Table_allColumns lay ht hT hM) ?_
        rintro _ N2 ⟨rfl, hN2⟩
        rw [hN2]
        show Wp _ 42 49 [(2, ((28 : Nat) : Int)), (0, (rs : Int)), (0, ((sh T rs v r : Nat) : Int)), (0, (r : Int))] [(0, ((2 ^ tC T - 1 : Nat) : Int))] M _ _ _
        refine g_iload_n lk_42_49 rfl ?_
        refine g_iconst lk_42_50 ?_
        refine g_ixor lk_42_51 ?_
        refine g_iand lk_42_52 ?_
        refine g_ireturn lk_42_53 (fun h => absurd h (by decide)) ?_
        rw [hQ]
        refine ⟨?_, rfl⟩
        rw [er, pm_nand k2 k1]
        rfl
      · replace h1 : ¬ ((tR T : Int) ≤ (r : Int)) := h1
        refine g_iload_n lk_42_15 rfl ?_
        refine g_iload_n lk_42_16 rfl ?_
        refine g_iload_n lk_42_17 rfl ?_
        refine g_static (Qc := _) lk_42_18 (by decide) rfl (Nat.le_of_ble_eq_true rfl) rfl rfl (Nat.le_of_ble_eq_true rfl) (Nat.le_of_ble_eq_true rfl) (Nat.zero_le _) (Nat.zero_le _) (c_Table_isIn (by omega) (by omega)) ?_
        rintro _ N3 ⟨rfl, hN3⟩
        rw [hN3]
        show Wp _ 42 21 [(2, ((28 : Nat) : Int)), (0, (rs : Int)), (0, ((sh T rs v r : Nat) : Int)), (0, (r : Int))] [(0, (if Nat.testBit rs r then (1 : Int) else 0)), (0, ((sh T rs v r : Nat) : Int))] M _ _ _
        refine g_if (t := 33) lk_42_21 rfl (by first | (unfold pm_inI; omega) | exact pm_and_in _ _ | exact pm_shr_in _ _ | exact pm_or_in _ _ | exact pm_xor_in _ _ | exact pm_shl_in _ _ | exact pm_cmp_in _ _ | exact pm_b8_in _ | (unfold pm_inI; split <;> omega)) (fun h4 => ?_) (fun h4 => ?_)
        · replace h4 : (if Nat.testBit rs r then (1 : Int) else 0) = 0 := h4
          refine g_iconst lk_42_33 ?_
          refine g_ior lk_42_34 ?_
          refine g_istore_n (ls' := [(2, ((28 : Nat) : Int)), (0, (rs : Int)), (0, (pm_or ((sh T rs v r : Nat) : Int) 0)), (0, (r : Int))]) lk_42_35 rfl rfl ?_
          refine g_iinc (ls' := [(2, ((28 : Nat) : Int)), (0, (rs : Int)), (0, (pm_or ((sh T rs v r : Nat) : Int) 0)), (0, ((r : Int) + 1))]) lk_42_36 rfl rfl rfl ?_
          refine g_goto (t := 4) lk_42_39 rfl ?_
          omega
        · replace h4 : ¬ ((if Nat.testBit rs r then (1 : Int) else 0) = 0) := h4
          refine g_aload_n lk_42_24 rfl ?_
          refine g_getfield lk_42_25 rfl (lay.on (by decide) rfl) (v := ((30 : Nat) : Int)) (lay.rf rfl) ?_
          refine g_iload_n lk_42_28 rfl ?_
          refine m_iaload (u := []) (M := M) lk_42_29 (lay.ay (by decide) rfl) (by omega) (j := r) (by omega) (v := pm_ct M 30 r) rfl ?_
          refine g_goto (t := 34) lk_42_30 rfl ?_
          refine g_ior lk_42_34 ?_
          refine g_istore_n (ls' := [(2, ((28 : Nat) : Int)), (0, (rs : Int)), (0, (pm_or ((sh T rs v r : Nat) : Int) (pm_ct M 30 r))), (0, (r : Int))]) lk_42_35 rfl rfl ?_
          refine g_iinc (ls' := [(2, ((28 : Nat) : Int)), (0, (rs : Int)), (0, (pm_or ((sh T rs v r : Nat) : Int) (pm_ct M 30 r))), (0, ((r : Int) + 1))]) lk_42_36 rfl rfl rfl ?_
          refine g_goto (t := 4) lk_42_39 rfl ?_
          omega
    | succ n ih =>
      intro r hr
      have e := sh_s T rs v r
      have h1 := sh_64 hT rs v r
      have h2 := uRow_64 hT r v
      refine g_iload_n lk_42_4 rfl ?_
      refine g_aload_n lk_42_5 rfl ?_
      refine g_getfield lk_42_6 rfl (lay.on (by decide) rfl) (v := ((24 : Nat) : Int)) (lay.rf rfl) ?_
      refine m_getfield (u := []) (M := M) lk_42_9 rfl (lay.on (by decide) rfl) (v := (tR T : Int)) hM.1 ?_
      refine g_icmp (t := 42) lk_42_12 rfl (by first | (unfold pm_inI; omega) | exact pm_and_in _ _ | exact pm_shr_in _ _ | exact pm_or_in _ _ | exact pm_xor_in _ _ | exact pm_shl_in _ _ | exact pm_cmp_in _ _ | exact pm_b8_in _ | (unfold pm_inI; split <;> omega)) (by first | (unfold pm_inI; omega) | exact pm_and_in _ _ | exact pm_shr_in _ _ | exact pm_or_in _ _ | exact pm_xor_in _ _ | exact pm_shl_in _ _ | exact pm_cmp_in _ _ | exact pm_b8_in _ | (unfold pm_inI; split <;> omega)) (fun h1 => ?_) (fun h1 => ?_)
      · replace h1 : (tR T : Int) ≤ (r : Int) := h1
        refine g_aload_n lk_42_42 rfl ?_
        refine g_getfield lk_42_43 rfl (lay.on (by decide) rfl) (v := ((24 : Nat) : Int)) (lay.rf rfl) ?_
        refine g_virtual (p := 24) (Qc := _) lk_42_46 rfl (Nat.le_of_ble_eq_true rfl) rfl rfl (lay.on (by decide) rfl) (Nat.le_of_ble_eq_true rfl) (Nat.le_of_ble_eq_true rfl) (Nat.zero_le _) (Nat.zero_le _) (c_Table_allColumns lay ht hT hM) ?_
        rintro _ N2 ⟨rfl, hN2⟩
        rw [hN2]
        show Wp _ 42 49 [(2, ((28 : Nat) : Int)), (0, (rs : Int)), (0, ((sh T rs v r : Nat) : Int)), (0, (r : Int))] [(0, ((2 ^ tC T - 1 : Nat) : Int))] M _ _ _
        refine g_iload_n lk_42_49 rfl ?_
        refine g_iconst lk_42_50 ?_
        refine g_ixor lk_42_51 ?_
        refine g_iand lk_42_52 ?_
        refine g_ireturn lk_42_53 (fun h => absurd h (by decide)) ?_
        omega
      · replace h1 : ¬ ((tR T : Int) ≤ (r : Int)) := h1
        refine g_iload_n lk_42_15 rfl ?_
        refine g_iload_n lk_42_16 rfl ?_
        refine g_iload_n lk_42_17 rfl ?_
        refine g_static (Qc := _) lk_42_18 (by decide) rfl (Nat.le_of_ble_eq_true rfl) rfl rfl (Nat.le_of_ble_eq_true rfl) (Nat.le_of_ble_eq_true rfl) (Nat.zero_le _) (Nat.zero_le _) (c_Table_isIn (by omega) (by omega)) ?_
        rintro _ N3 ⟨rfl, hN3⟩
        rw [hN3]
        show Wp _ 42 21 [(2, ((28 : Nat) : Int)), (0, (rs : Int)), (0, ((sh T rs v r : Nat) : Int)), (0, (r : Int))] [(0, (if Nat.testBit rs r then (1 : Int) else 0)), (0, ((sh T rs v r : Nat) : Int))] M _ _ _
        refine g_if (t := 33) lk_42_21 rfl (by first | (unfold pm_inI; omega) | exact pm_and_in _ _ | exact pm_shr_in _ _ | exact pm_or_in _ _ | exact pm_xor_in _ _ | exact pm_shl_in _ _ | exact pm_cmp_in _ _ | exact pm_b8_in _ | (unfold pm_inI; split <;> omega)) (fun h4 => ?_) (fun h4 => ?_)
        · replace h4 : (if Nat.testBit rs r then (1 : Int) else 0) = 0 := h4
          refine g_iconst lk_42_33 ?_
          refine g_ior lk_42_34 ?_
          refine g_istore_n (ls' := [(2, ((28 : Nat) : Int)), (0, (rs : Int)), (0, (pm_or ((sh T rs v r : Nat) : Int) 0)), (0, (r : Int))]) lk_42_35 rfl rfl ?_
          refine g_iinc (ls' := [(2, ((28 : Nat) : Int)), (0, (rs : Int)), (0, (pm_or ((sh T rs v r : Nat) : Int) 0)), (0, ((r : Int) + 1))]) lk_42_36 rfl rfl rfl ?_
          refine g_goto (t := 4) lk_42_39 rfl ?_
          rw [if_neg (by simp_all)] at e
          rw [pm_or_0 (by omega), ← e]
          exact ih (r + 1) (by omega)
        · replace h4 : ¬ ((if Nat.testBit rs r then (1 : Int) else 0) = 0) := h4
          refine g_aload_n lk_42_24 rfl ?_
          refine g_getfield lk_42_25 rfl (lay.on (by decide) rfl) (v := ((30 : Nat) : Int)) (lay.rf rfl) ?_
          refine g_iload_n lk_42_28 rfl ?_
          refine m_iaload (u := []) (M := M) lk_42_29 (lay.ay (by decide) rfl) (by omega) (j := r) (by omega) (v := ((uRow T r v : Nat) : Int)) (hP r (by omega)).2 ?_
          refine g_goto (t := 34) lk_42_30 rfl ?_
          refine g_ior lk_42_34 ?_
          refine g_istore_n (ls' := [(2, ((28 : Nat) : Int)), (0, (rs : Int)), (0, (pm_or ((sh T rs v r : Nat) : Int) ((uRow T r v : Nat) : Int))), (0, (r : Int))]) lk_42_35 rfl rfl ?_
          refine g_iinc (ls' := [(2, ((28 : Nat) : Int)), (0, (rs : Int)), (0, (pm_or ((sh T rs v r : Nat) : Int) ((uRow T r v : Nat) : Int))), (0, ((r : Int) + 1))]) lk_42_36 rfl rfl rfl ?_
          refine g_goto (t := 4) lk_42_39 rfl ?_
          rw [if_pos (by simp_all)] at e
          rw [pm_or_n (by omega) (by omega), ← e]
          exact ih (r + 1) (by omega)
  show Wp (d + 1) 42 0 [(2, ((28 : Nat) : Int)), (0, (rs : Int)), (9, 0), (9, 0)] [] M mc ms Q
  refine g_iconst lk_42_0 ?_
  refine g_istore_n (ls' := [(2, ((28 : Nat) : Int)), (0, (rs : Int)), (0, 0), (9, 0)]) lk_42_1 rfl rfl ?_
  refine g_iconst lk_42_2 ?_
  refine g_istore_n (ls' := [(2, ((28 : Nat) : Int)), (0, (rs : Int)), (0, 0), (0, 0)]) lk_42_3 rfl rfl ?_
  exact loop (tR T) 0 (by omega)
/-- the columns that have the value in the rows -/
def ow (T : Tab) (rs v : Nat) (n : Nat) : Nat := (List.range n).foldl (fun a r => if rs.testBit r then a ||| oRow T r v (tC T) else a) 0
theorem ow_s (T : Tab) (rs v n : Nat) : ow T rs v (n + 1) = if rs.testBit n then ow T rs v n ||| oRow T n v (tC T) else ow T rs v n := fo_succ _ _ _
theorem ow_64 {T : Tab} (hT : TabOK T) (rs v : Nat) : ∀ n, ow T rs v n < 64
  | 0 => (by decide : 0 < 64)
  | n + 1 => by
    have h := ow_64 hT rs v n
    rw [ow_s]
    split
    · exact Nat.or_lt_two_pow (n := 6) h (oRow_64 hT n v (Nat.le_refl _))
    · exact h
theorem ow_bit (T : Tab) (rs v : Nat) (c : Nat) : ∀ n, (ow T rs v n).testBit c = true ↔ ∃ r, r < n ∧ rs.testBit r = true ∧ (oRow T r v (tC T)).testBit c = true
  | 0 => by
    constructor
    · intro h; rw [show ow T rs v 0 = 0 from rfl, Nat.zero_testBit] at h; cases h
    · rintro ⟨r, hr, -⟩; omega
  | n + 1 => by
    rw [ow_s]
    have ih := ow_bit T rs v c n
    by_cases hn : rs.testBit n = true
    · rw [if_pos hn, Nat.testBit_or, Bool.or_eq_true, ih]
      constructor
      · rintro (⟨r, h1, h2⟩ | h)
        · exact ⟨r, by omega, h2⟩
        · exact ⟨n, by omega, hn, h⟩
      · rintro ⟨r, h1, h2, h3⟩
        by_cases h : r = n
        · subst h; exact Or.inr h3
        · exact Or.inl ⟨r, by omega, h2, h3⟩
    · rw [if_neg hn, ih]
      constructor
      · rintro ⟨r, h1, h2⟩; exact ⟨r, by omega, h2⟩
      · rintro ⟨r, h1, h2, h3⟩
        by_cases h : r = n
        · subst h; exact absurd h2 hn
        · exact ⟨r, by omega, h2, h3⟩
set_option maxHeartbeats 4000000 in
theorem c_Patches_ownColumns {d mc ms : Nat} {M : pm_M} (lay : Lay M) {T : Tab} (hT : TabOK T) (hM : TbAt M 24 T) {v rs : Nat} (hP : PaAt M T v) (hrs : rs < 64) :
    pm_E (d + 1) 44 [(2, ((28 : Nat) : Int)), (0, (rs : Int))] M mc ms (fun ρ M' => ρ = some (0, ((ow T rs v (tR T) : Nat) : Int)) ∧ M' = M) := by
  obtain ⟨Q, hQ⟩ : ∃ Q : pm_Q, Q = (fun ρ M' => ρ = some (0, ((ow T rs v (tR T) : Nat) : Int)) ∧ M' = M) := ⟨_, rfl⟩
  rw [← hQ]
  have hR := hT.1
  have loop : ∀ (n r : Nat), r + n = tR T → Wp (d + 1) 44 4 [(2, ((28 : Nat) : Int)), (0, (rs : Int)), (0, ((ow T rs v r : Nat) : Int)), (0, (r : Int))] [] M mc ms Q := by
    intro n
    induction n with
    | zero =>
      intro r hr
      have er : r = tR T := by omega
      refine g_iload_n lk_44_4 rfl ?_
      refine g_aload_n lk_44_5 rfl ?_
      refine g_getfield lk_44_6 rfl (lay.on (by decide) rfl) (v := ((24 : Nat) : Int)) (lay.rf rfl) ?_
      refine m_getfield (u := []) (M := M) lk_44_9 rfl (lay.on (by decide) rfl) (v := (tR T : Int)) hM.1 ?_
      refine g_icmp (t := 42) lk_44_12 rfl (by first | (unfold pm_inI; omega) | exact pm_and_in _ _ | exact pm_shr_in _ _ | exact pm_or_in _ _ | exact pm_xor_in _ _ | exact pm_shl_in _ _ | exact pm_cmp_in _ _ | exact pm_b8_in _ | (unfold pm_inI; split <;> omega)) (by first | (unfold pm_inI; omega) | exact pm_and_in _ _ | exact pm_shr_in _ _ | exact pm_or_in _ _ | exact pm_xor_in _ _ | exact pm_shl_in _ _ | exact pm_cmp_in _ _ | exact pm_b8_in _ | (unfold pm_inI; split <;> omega)) (fun h1 => ?_) (fun h1 => ?_)
      · replace h1 : (tR T : Int) ≤ (r : Int) := h1
        refine g_iload_n lk_44_42 rfl ?_
        refine g_ireturn lk_44_43 (fun h => absurd h (by decide)) ?_
        rw [hQ, er]
        exact ⟨rfl, rfl⟩
      · replace h1 : ¬ ((tR T : Int) ≤ (r : Int)) := h1
        refine g_iload_n lk_44_15 rfl ?_
        refine g_iload_n lk_44_16 rfl ?_
        refine g_iload_n lk_44_17 rfl ?_
        refine g_static (Qc := _) lk_44_18 (by decide) rfl (Nat.le_of_ble_eq_true rfl) rfl rfl (Nat.le_of_ble_eq_true rfl) (Nat.le_of_ble_eq_true rfl) (Nat.zero_le _) (Nat.zero_le _) (c_Table_isIn (by omega) (by omega)) ?_
        rintro _ N2 ⟨rfl, hN2⟩
        rw [hN2]
        show Wp _ 44 21 [(2, ((28 : Nat) : Int)), (0, (rs : Int)), (0, ((ow T rs v r : Nat) : Int)), (0, (r : Int))] [(0, (if Nat.testBit rs r then (1 : Int) else 0)), (0, ((ow T rs v r : Nat) : Int))] M _ _ _
        refine g_if (t := 33) lk_44_21 rfl (by first | (unfold pm_inI; omega) | exact pm_and_in _ _ | exact pm_shr_in _ _ | exact pm_or_in _ _ | exact pm_xor_in _ _ | exact pm_shl_in _ _ | exact pm_cmp_in _ _ | exact pm_b8_in _ | (unfold pm_inI; split <;> omega)) (fun h3 => ?_) (fun h3 => ?_)
        · replace h3 : (if Nat.testBit rs r then (1 : Int) else 0) = 0 := h3
          refine g_iconst lk_44_33 ?_
          refine g_ior lk_44_34 ?_
          refine g_istore_n (ls' := [(2, ((28 : Nat) : Int)), (0, (rs : Int)), (0, (pm_or ((ow T rs v r : Nat) : Int) 0)), (0, (r : Int))]) lk_44_35 rfl rfl ?_
          refine g_iinc (ls' := [(2, ((28 : Nat) : Int)), (0, (rs : Int)), (0, (pm_or ((ow T rs v r : Nat) : Int) 0)), (0, ((r : Int) + 1))]) lk_44_36 rfl rfl rfl ?_
          refine g_goto (t := 4) lk_44_39 rfl ?_
          omega
        · replace h3 : ¬ ((if Nat.testBit rs r then (1 : Int) else 0) = 0) := h3
          refine g_aload_n lk_44_24 rfl ?_
          refine g_getfield lk_44_25 rfl (lay.on (by decide) rfl) (v := ((29 : Nat) : Int)) (lay.rf rfl) ?_
          refine g_iload_n lk_44_28 rfl ?_
          refine m_iaload (u := []) (M := M) lk_44_29 (lay.ay (by decide) rfl) (by omega) (j := r) (by omega) (v := pm_ct M 29 r) rfl ?_
          refine g_goto (t := 34) lk_44_30 rfl ?_
          refine g_ior lk_44_34 ?_
          refine g_istore_n (ls' := [(2, ((28 : Nat) : Int)), (0, (rs : Int)), (0, (pm_or ((ow T rs v r : Nat) : Int) (pm_ct M 29 r))), (0, (r : Int))]) lk_44_35 rfl rfl ?_
          refine g_iinc (ls' := [(2, ((28 : Nat) : Int)), (0, (rs : Int)), (0, (pm_or ((ow T rs v r : Nat) : Int) (pm_ct M 29 r))), (0, ((r : Int) + 1))]) lk_44_36 rfl rfl rfl ?_
          refine g_goto (t := 4) lk_44_39 rfl ?_
          omega
    | succ n ih =>
      intro r hr
      have e := ow_s T rs v r
      have h1 := ow_64 hT rs v r
      have h2 := oRow_64 hT r v (Nat.le_refl _)
      refine g_iload_n lk_44_4 rfl ?_
      refine g_aload_n lk_44_5 rfl ?_
      refine g_getfield lk_44_6 rfl (lay.on (by decide) rfl) (v := ((24 : Nat) : Int)) (lay.rf rfl) ?_
      refine m_getfield (u := []) (M := M) lk_44_9 rfl (lay.on (by decide) rfl) (v := (tR T : Int)) hM.1 ?_
      refine g_icmp (t := 42) lk_44_12 rfl (by first | (unfold pm_inI; omega) | exact pm_and_in _ _ | exact pm_shr_in _ _ | exact pm_or_in _ _ | exact pm_xor_in _ _ | exact pm_shl_in _ _ | exact pm_cmp_in _ _ | exact pm_b8_in _ | (unfold pm_inI; split <;> omega)) (by first | (unfold pm_inI; omega) | exact pm_and_in _ _ | exact pm_shr_in _ _ | exact pm_or_in _ _ | exact pm_xor_in _ _ | exact pm_shl_in _ _ | exact pm_cmp_in _ _ | exact pm_b8_in _ | (unfold pm_inI; split <;> omega)) (fun h1 => ?_) (fun h1 => ?_)
      · replace h1 : (tR T : Int) ≤ (r : Int) := h1
        refine g_iload_n lk_44_42 rfl ?_
        refine g_ireturn lk_44_43 (fun h => absurd h (by decide)) ?_
        omega
      · replace h1 : ¬ ((tR T : Int) ≤ (r : Int)) := h1
        refine g_iload_n lk_44_15 rfl ?_
        refine g_iload_n lk_44_16 rfl ?_
        refine g_iload_n lk_44_17 rfl ?_
        refine g_static (Qc := _) lk_44_18 (by decide) rfl (Nat.le_of_ble_eq_true rfl) rfl rfl (Nat.le_of_ble_eq_true rfl) (Nat.le_of_ble_eq_true rfl) (Nat.zero_le _) (Nat.zero_le _) (c_Table_isIn (by omega) (by omega)) ?_
        rintro _ N2 ⟨rfl, hN2⟩
        rw [hN2]
        show Wp _ 44 21 [(2, ((28 : Nat) : Int)), (0, (rs : Int)), (0, ((ow T rs v r : Nat) : Int)), (0, (r : Int))] [(0, (if Nat.testBit rs r then (1 : Int) else 0)), (0, ((ow T rs v r : Nat) : Int))] M _ _ _
        refine g_if (t := 33) lk_44_21 rfl (by first | (unfold pm_inI; omega) | exact pm_and_in _ _ | exact pm_shr_in _ _ | exact pm_or_in _ _ | exact pm_xor_in _ _ | exact pm_shl_in _ _ | exact pm_cmp_in _ _ | exact pm_b8_in _ | (unfold pm_inI; split <;> omega)) (fun h3 => ?_) (fun h3 => ?_)
        · replace h3 : (if Nat.testBit rs r then (1 : Int) else 0) = 0 := h3
          refine g_iconst lk_44_33 ?_
          refine g_ior lk_44_34 ?_
          refine g_istore_n (ls' := [(2, ((28 : Nat) : Int)), (0, (rs : Int)), (0, (pm_or ((ow T rs v r : Nat) : Int) 0)), (0, (r : Int))]) lk_44_35 rfl rfl ?_
          refine g_iinc (ls' := [(2, ((28 : Nat) : Int)), (0, (rs : Int)), (0, (pm_or ((ow T rs v r : Nat) : Int) 0)), (0, ((r : Int) + 1))]) lk_44_36 rfl rfl rfl ?_
          refine g_goto (t := 4) lk_44_39 rfl ?_
          rw [if_neg (by simp_all)] at e
          rw [pm_or_0 (by omega), ← e]
          exact ih (r + 1) (by omega)
        · replace h3 : ¬ ((if Nat.testBit rs r then (1 : Int) else 0) = 0) := h3
          refine g_aload_n lk_44_24 rfl ?_
          refine g_getfield lk_44_25 rfl (lay.on (by decide) rfl) (v := ((29 : Nat) : Int)) (lay.rf rfl) ?_
          refine g_iload_n lk_44_28 rfl ?_
          refine m_iaload (u := []) (M := M) lk_44_29 (lay.ay (by decide) rfl) (by omega) (j := r) (by omega) (v := ((oRow T r v (tC T) : Nat) : Int)) (hP r (by omega)).1 ?_
          refine g_goto (t := 34) lk_44_30 rfl ?_
          refine g_ior lk_44_34 ?_
          refine g_istore_n (ls' := [(2, ((28 : Nat) : Int)), (0, (rs : Int)), (0, (pm_or ((ow T rs v r : Nat) : Int) ((oRow T r v (tC T) : Nat) : Int))), (0, (r : Int))]) lk_44_35 rfl rfl ?_
          refine g_iinc (ls' := [(2, ((28 : Nat) : Int)), (0, (rs : Int)), (0, (pm_or ((ow T rs v r : Nat) : Int) ((oRow T r v (tC T) : Nat) : Int))), (0, ((r : Int) + 1))]) lk_44_36 rfl rfl rfl ?_
          refine g_goto (t := 4) lk_44_39 rfl ?_
          rw [if_pos (by simp_all)] at e
          rw [pm_or_n (by omega) (by omega), ← e]
          exact ih (r + 1) (by omega)
  show Wp (d + 1) 44 0 [(2, ((28 : Nat) : Int)), (0, (rs : Int)), (9, 0), (9, 0)] [] M mc ms Q
  refine g_iconst lk_44_0 ?_
  refine g_istore_n (ls' := [(2, ((28 : Nat) : Int)), (0, (rs : Int)), (0, 0), (9, 0)]) lk_44_1 rfl rfl ?_
  refine g_iconst lk_44_2 ?_
  refine g_istore_n (ls' := [(2, ((28 : Nat) : Int)), (0, (rs : Int)), (0, 0), (0, 0)]) lk_44_3 rfl rfl ?_
  exact loop (tR T) 0 (by omega)
/-- the rows that have no other value in the columns -/
def oR (T : Tab) (cs v : Nat) (n : Nat) : Nat := (List.range n).foldl (fun a r => if uRow T r v &&& cs = 0 then a ||| 2 ^ r else a) 0
theorem oR_s (T : Tab) (cs v n : Nat) : oR T cs v (n + 1) = if uRow T n v &&& cs = 0 then oR T cs v n ||| 2 ^ n else oR T cs v n := fo_succ _ _ _
theorem oR_lt (T : Tab) (cs v : Nat) : ∀ n, oR T cs v n < 2 ^ n
  | 0 => (by decide : 0 < 1)
  | n + 1 => by
    have h := oR_lt T cs v n
    have h2 : 2 ^ n < 2 ^ (n + 1) := Nat.pow_lt_pow_right (by omega) (by omega)
    rw [oR_s]
    split
    · exact Nat.or_lt_two_pow (Nat.lt_trans h h2) h2
    · exact Nat.lt_trans h h2
theorem oR_bit (T : Tab) (cs v : Nat) : ∀ n r, (oR T cs v n).testBit r = (decide (r < n) && decide (uRow T r v &&& cs = 0))
  | 0, c => by show (0 : Nat).testBit c = _; simp
  | n + 1, c => by
    rw [oR_s]
    by_cases h : uRow T n v &&& cs = 0
    · rw [if_pos h, Nat.testBit_or, oR_bit T cs v n c, Nat.testBit_two_pow]
      by_cases hc : n = c
      · subst hc; simp [h]
      · by_cases h2 : c < n
        · simp [h2, show c < n + 1 by omega, hc]
        · simp [h2, show ¬ c < n + 1 by omega, hc]
    · rw [if_neg h, oR_bit T cs v n c]
      by_cases hc : n = c
      · subst hc; simp [h]
      · by_cases h2 : c < n
        · simp [h2, show c < n + 1 by omega]
        · simp [h2, show ¬ c < n + 1 by omega]
set_option maxHeartbeats 4000000 in
theorem c_Patches_openRows {d mc ms : Nat} {M : pm_M} (lay : Lay M) {T : Tab} (hT : TabOK T) (hM : TbAt M 24 T) {v cs : Nat} (hP : PaAt M T v) (hcs : cs < 64) :
    pm_E d 43 [(2, ((28 : Nat) : Int)), (0, (cs : Int))] M mc ms (fun ρ M' => ρ = some (0, ((oR T cs v (tR T) : Nat) : Int)) ∧ M' = M) := by
  obtain ⟨Q, hQ⟩ : ∃ Q : pm_Q, Q = (fun ρ M' => ρ = some (0, ((oR T cs v (tR T) : Nat) : Int)) ∧ M' = M) := ⟨_, rfl⟩
  rw [← hQ]
  have hR := hT.1
  have loop : ∀ (n r : Nat), r + n = tR T → Wp d 43 4 [(2, ((28 : Nat) : Int)), (0, (cs : Int)), (0, ((oR T cs v r : Nat) : Int)), (0, (r : Int))] [] M mc ms Q := by
    intro n
    induction n with
    | zero =>
      intro r hr
      have er : r = tR T := by omega
      refine g_iload_n lk_43_4 rfl ?_
      refine g_aload_n lk_43_5 rfl ?_
      refine g_getfield lk_43_6 rfl (lay.on (by decide) rfl) (v := ((24 : Nat) : Int)) (lay.rf rfl) ?_
      refine m_getfield (u := []) (M := M) lk_43_9 rfl (lay.on (by decide) rfl) (v := (tR T : Int)) hM.1 ?_
      refine g_icmp (t := 42) lk_43_12 rfl (by first | (unfold pm_inI; omega) | exact pm_and_in _ _ | exact pm_shr_in _ _ | exact pm_or_in _ _ | exact pm_xor_in _ _ | exact pm_shl_in _ _ | exact pm_cmp_in _ _ | exact pm_b8_in _ | (unfold pm_inI; split <;> omega)) (by first | (unfold pm_inI; omega) | exact pm_and_in _ _ | exact pm_shr_in _ _ | exact pm_or_in _ _ | exact pm_xor_in _ _ | exact pm_shl_in _ _ | exact pm_cmp_in _ _ | exact pm_b8_in _ | (unfold pm_inI; split <;> omega)) (fun h1 => ?_) (fun h1 => ?_)
      · replace h1 : (tR T : Int) ≤ (r : Int) := h1
        refine g_iload_n lk_43_42 rfl ?_
        refine g_ireturn lk_43_43 (fun h => absurd h (by decide)) ?_
        rw [hQ, er]
        exact ⟨rfl, rfl⟩
      · replace h1 : ¬ ((tR T : Int) ≤ (r : Int)) := h1
        refine g_iload_n lk_43_15 rfl ?_
        refine g_aload_n lk_43_16 rfl ?_
        refine g_getfield lk_43_17 rfl (lay.on (by decide) rfl) (v := ((30 : Nat) : Int)) (lay.rf rfl) ?_
        refine g_iload_n lk_43_20 rfl ?_
        refine m_iaload (u := []) (M := M) lk_43_21 (lay.ay (by decide) rfl) (by omega) (j := r) (by omega) (v := pm_ct M 30 r) rfl ?_
        refine g_iload_n lk_43_22 rfl ?_
        refine g_iand lk_43_23 ?_
        refine g_if (t := 33) lk_43_24 rfl (by first | (unfold pm_inI; omega) | exact pm_and_in _ _ | exact pm_shr_in _ _ | exact pm_or_in _ _ | exact pm_xor_in _ _ | exact pm_shl_in _ _ | exact pm_cmp_in _ _ | exact pm_b8_in _ | (unfold pm_inI; split <;> omega)) (fun h2 => ?_) (fun h2 => ?_)
        · replace h2 : ¬ (pm_and (pm_ct M 30 r) (cs : Int)) = 0 := h2
          refine g_iconst lk_43_33 ?_
          refine g_ior lk_43_34 ?_
          refine g_istore_n (ls' := [(2, ((28 : Nat) : Int)), (0, (cs : Int)), (0, (pm_or ((oR T cs v r : Nat) : Int) 0)), (0, (r : Int))]) lk_43_35 rfl rfl ?_
          refine g_iinc (ls' := [(2, ((28 : Nat) : Int)), (0, (cs : Int)), (0, (pm_or ((oR T cs v r : Nat) : Int) 0)), (0, ((r : Int) + 1))]) lk_43_36 rfl rfl rfl ?_
          refine g_goto (t := 4) lk_43_39 rfl ?_
          omega
        · replace h2 : ¬ (¬ (pm_and (pm_ct M 30 r) (cs : Int)) = 0) := h2
          refine g_iconst lk_43_27 ?_
          refine g_iload_n lk_43_28 rfl ?_
          refine g_ishl lk_43_29 ?_
          refine g_goto (t := 34) lk_43_30 rfl ?_
          refine g_ior lk_43_34 ?_
          refine g_istore_n (ls' := [(2, ((28 : Nat) : Int)), (0, (cs : Int)), (0, (pm_or ((oR T cs v r : Nat) : Int) (pm_shl 1 (r : Int)))), (0, (r : Int))]) lk_43_35 rfl rfl ?_
          refine g_iinc (ls' := [(2, ((28 : Nat) : Int)), (0, (cs : Int)), (0, (pm_or ((oR T cs v r : Nat) : Int) (pm_shl 1 (r : Int)))), (0, ((r : Int) + 1))]) lk_43_36 rfl rfl rfl ?_
          refine g_goto (t := 4) lk_43_39 rfl ?_
          omega
    | succ n ih =>
      intro r hr
      have e := oR_s T cs v r
      have k1 : oR T cs v r < 2147483648 := Nat.lt_of_lt_of_le (oR_lt T cs v r) (Nat.le_trans (Nat.pow_le_pow_right (n := 2) (by omega) (by omega : r ≤ 6)) (by decide))
      have h2 := uRow_64 hT r v
      have hand : pm_and ((uRow T r v : Nat) : Int) (cs : Int) = ((uRow T r v &&& cs : Nat) : Int) := pm_and_n (by omega) (by omega)
      have h2c : 2 ^ r < 2147483648 := Nat.lt_of_lt_of_le (Nat.pow_lt_pow_right (by omega) (by omega : r < 7)) (by decide)
      refine g_iload_n lk_43_4 rfl ?_
      refine g_aload_n lk_43_5 rfl ?_
      refine g_getfield lk_43_6 rfl (lay.on (by decide) rfl) (v := ((24 : Nat) : Int)) (lay.rf rfl) ?_
      refine m_getfield (u := []) (M := M) lk_43_9 rfl (lay.on (by decide) rfl) (v := (tR T : Int)) hM.1 ?_
      refine g_icmp (t := 42) lk_43_12 rfl (by first | (unfold pm_inI; omega) | exact pm_and_in _ _ | exact pm_shr_in _ _ | exact pm_or_in _ _ | exact pm_xor_in _ _ | exact pm_shl_in _ _ | exact pm_cmp_in _ _ | exact pm_b8_in _ | (unfold pm_inI; split <;> omega)) (by first | (unfold pm_inI; omega) | exact pm_and_in _ _ | exact pm_shr_in _ _ | exact pm_or_in _ _ | exact pm_xor_in _ _ | exact pm_shl_in _ _ | exact pm_cmp_in _ _ | exact pm_b8_in _ | (unfold pm_inI; split <;> omega)) (fun h1 => ?_) (fun h1 => ?_)
      · replace h1 : (tR T : Int) ≤ (r : Int) := h1
        refine g_iload_n lk_43_42 rfl ?_
        refine g_ireturn lk_43_43 (fun h => absurd h (by decide)) ?_
        omega
      · replace h1 : ¬ ((tR T : Int) ≤ (r : Int)) := h1
        refine g_iload_n lk_43_15 rfl ?_
        refine g_aload_n lk_43_16 rfl ?_
        refine g_getfield lk_43_17 rfl (lay.on (by decide) rfl) (v := ((30 : Nat) : Int)) (lay.rf rfl) ?_
        refine g_iload_n lk_43_20 rfl ?_
        refine m_iaload (u := []) (M := M) lk_43_21 (lay.ay (by decide) rfl) (by omega) (j := r) (by omega) (v := ((uRow T r v : Nat) : Int)) (hP r (by omega)).2 ?_
        refine g_iload_n lk_43_22 rfl ?_
        refine g_iand lk_43_23 ?_
        refine g_if (t := 33) lk_43_24 rfl (by first | (unfold pm_inI; omega) | exact pm_and_in _ _ | exact pm_shr_in _ _ | exact pm_or_in _ _ | exact pm_xor_in _ _ | exact pm_shl_in _ _ | exact pm_cmp_in _ _ | exact pm_b8_in _ | (unfold pm_inI; split <;> omega)) (fun h2 => ?_) (fun h2 => ?_)
        · replace h2 : ¬ (pm_and ((uRow T r v : Nat) : Int) (cs : Int)) = 0 := h2
          refine g_iconst lk_43_33 ?_
          refine g_ior lk_43_34 ?_
          refine g_istore_n (ls' := [(2, ((28 : Nat) : Int)), (0, (cs : Int)), (0, (pm_or ((oR T cs v r : Nat) : Int) 0)), (0, (r : Int))]) lk_43_35 rfl rfl ?_
          refine g_iinc (ls' := [(2, ((28 : Nat) : Int)), (0, (cs : Int)), (0, (pm_or ((oR T cs v r : Nat) : Int) 0)), (0, ((r : Int) + 1))]) lk_43_36 rfl rfl rfl ?_
          refine g_goto (t := 4) lk_43_39 rfl ?_
          rw [hand] at h2
          rw [if_neg (by omega)] at e
          rw [pm_or_0 (by omega), ← e]
          exact ih (r + 1) (by omega)
        · replace h2 : ¬ (¬ (pm_and ((uRow T r v : Nat) : Int) (cs : Int)) = 0) := h2
          refine g_iconst lk_43_27 ?_
          refine g_iload_n lk_43_28 rfl ?_
          refine g_ishl lk_43_29 ?_
          refine g_goto (t := 34) lk_43_30 rfl ?_
          refine g_ior lk_43_34 ?_
          refine g_istore_n (ls' := [(2, ((28 : Nat) : Int)), (0, (cs : Int)), (0, (pm_or ((oR T cs v r : Nat) : Int) (pm_shl 1 (r : Int)))), (0, (r : Int))]) lk_43_35 rfl rfl ?_
          refine g_iinc (ls' := [(2, ((28 : Nat) : Int)), (0, (cs : Int)), (0, (pm_or ((oR T cs v r : Nat) : Int) (pm_shl 1 (r : Int)))), (0, ((r : Int) + 1))]) lk_43_36 rfl rfl rfl ?_
          refine g_goto (t := 4) lk_43_39 rfl ?_
          rw [hand] at h2
          rw [if_pos (by omega)] at e
          rw [pm_shl_1 (by omega), pm_or_n k1 h2c, ← e]
          exact ih (r + 1) (by omega)
  show Wp d 43 0 [(2, ((28 : Nat) : Int)), (0, (cs : Int)), (9, 0), (9, 0)] [] M mc ms Q
  refine g_iconst lk_43_0 ?_
  refine g_istore_n (ls' := [(2, ((28 : Nat) : Int)), (0, (cs : Int)), (0, 0), (9, 0)]) lk_43_1 rfl rfl ?_
  refine g_iconst lk_43_2 ?_
  refine g_istore_n (ls' := [(2, ((28 : Nat) : Int)), (0, (cs : Int)), (0, 0), (0, 0)]) lk_43_3 rfl rfl ?_
  exact loop (tR T) 0 (by omega)
/-- the cells of the value in an area, a bit each -/
def wL (T : Tab) (rs cs v : Nat) (n : Nat) : Nat := (List.range n).foldl (fun a r => if rs.testBit r then a ||| (oRow T r v (tC T) &&& cs) * 2 ^ (6 * r) else a) 0
theorem wL_s (T : Tab) (rs cs v n : Nat) : wL T rs cs v (n + 1) = if rs.testBit n then wL T rs cs v n ||| (oRow T n v (tC T) &&& cs) * 2 ^ (6 * n) else wL T rs cs v n := fo_succ _ _ _
theorem mul_lt_pow {a k n : Nat} (h : a < 2 ^ k) : a * 2 ^ n < 2 ^ (n + k) := by
  rw [Nat.pow_add, Nat.mul_comm]; exact Nat.mul_lt_mul_of_pos_left h (Nat.two_pow_pos n)
theorem wL_lt {T : Tab} (hT : TabOK T) (rs cs v : Nat) : ∀ n, wL T rs cs v n < 2 ^ (6 * n)
  | 0 => (by decide : 0 < 1)
  | n + 1 => by
    have h := wL_lt hT rs cs v n
    have h2 : 2 ^ (6 * n) < 2 ^ (6 * (n + 1)) := Nat.pow_lt_pow_right (by omega) (by omega)
    rw [wL_s]
    split
    · refine Nat.or_lt_two_pow (Nat.lt_trans h h2) ?_
      exact mul_lt_pow (k := 6) (Nat.lt_of_le_of_lt Nat.and_le_left (oRow_64 hT n v (Nat.le_refl _)))
    · exact Nat.lt_trans h h2
theorem pm_shlL_tab : ∀ k : Fin 64, ((((Int32.ofInt ((k : Nat) : Int)).toInt64 &&& 63).toBitVec.smod 64).toNat) = (k : Nat) := by decide +kernel
theorem pm_shlL_n {a k : Nat} (hk : k < 64) (ha : a * 2 ^ k < 9223372036854775808) : pm_shlL (a : Int) (k : Int) = ((a * 2 ^ k : Nat) : Int) := by
  unfold pm_shlL
  rw [pm_ofNL]
  have h0 := pm_shlL_tab ⟨k, hk⟩
  obtain ⟨c, hc⟩ : ∃ c, c = ((Int32.ofInt (k : Int)).toInt64 &&& 63) := ⟨_, rfl⟩
  rw [← hc] at h0 ⊢
  replace h0 : (c.toBitVec.smod 64).toNat = k := h0
  show ((BitVec.ofNat 64 a) <<< (c.toBitVec.smod 64)).toInt = _
  have h1 : a ≤ a * 2 ^ k := Nat.le_mul_of_pos_right a (Nat.two_pow_pos k)
  have h2 : ((BitVec.ofNat 64 a) <<< (c.toBitVec.smod 64)).toNat = a * 2 ^ k := by
    rw [BitVec.shiftLeft_eq', BitVec.toNat_shiftLeft, h0, BitVec.toNat_ofNat, Nat.shiftLeft_eq]
    rw [Nat.mod_eq_of_lt (show a < 2 ^ 64 by omega)]
    exact Nat.mod_eq_of_lt (by omega)
  rw [BitVec.toInt_eq_toNat_of_lt (by rw [h2]; omega), h2]
set_option maxHeartbeats 4000000 in
theorem c_Patches_ownCells {d mc ms : Nat} {M : pm_M} (lay : Lay M) {T : Tab} (hT : TabOK T) (hM : TbAt M 24 T) {v rs cs : Nat} (hP : PaAt M T v) (hrs : rs < 64) (hcs : cs < 64) :
    pm_E (d + 1) 45 [(2, ((28 : Nat) : Int)), (0, (rs : Int)), (0, (cs : Int))] M mc ms (fun ρ M' => ρ = some (1, ((wL T rs cs v (tR T) : Nat) : Int)) ∧ M' = M) := by
  obtain ⟨Q, hQ⟩ : ∃ Q : pm_Q, Q = (fun ρ M' => ρ = some (1, ((wL T rs cs v (tR T) : Nat) : Int)) ∧ M' = M) := ⟨_, rfl⟩
  rw [← hQ]
  have hR := hT.1
  have loop : ∀ (n r : Nat), r + n = tR T → Wp (d + 1) 45 5 [(2, ((28 : Nat) : Int)), (0, (rs : Int)), (0, (cs : Int)), (1, ((wL T rs cs v r : Nat) : Int)), (9, 0), (0, (r : Int))] [] M mc ms Q := by
    intro n
    induction n with
    | zero =>
      intro r hr
      have er : r = tR T := by omega
      refine g_iload lk_45_5 rfl ?_
      refine g_aload_n lk_45_7 rfl ?_
      refine g_getfield lk_45_8 rfl (lay.on (by decide) rfl) (v := ((24 : Nat) : Int)) (lay.rf rfl) ?_
      refine m_getfield (u := []) (M := M) lk_45_11 rfl (lay.on (by decide) rfl) (v := (tR T : Int)) hM.1 ?_
      refine g_icmp (t := 51) lk_45_14 rfl (by first | (unfold pm_inI; omega) | exact pm_and_in _ _ | exact pm_shr_in _ _ | exact pm_or_in _ _ | exact pm_xor_in _ _ | exact pm_shl_in _ _ | exact pm_cmp_in _ _ | exact pm_b8_in _ | (unfold pm_inI; split <;> omega)) (by first | (unfold pm_inI; omega) | exact pm_and_in _ _ | exact pm_shr_in _ _ | exact pm_or_in _ _ | exact pm_xor_in _ _ | exact pm_shl_in _ _ | exact pm_cmp_in _ _ | exact pm_b8_in _ | (unfold pm_inI; split <;> omega)) (fun h1 => ?_) (fun h1 => ?_)
      · replace h1 : (tR T : Int) ≤ (r : Int) := h1
        refine g_lload_n lk_45_51 rfl ?_
        refine g_lreturn lk_45_52 ?_
        rw [hQ, er]
        exact ⟨rfl, rfl⟩
      · replace h1 : ¬ ((tR T : Int) ≤ (r : Int)) := h1
        refine g_iload lk_45_17 rfl ?_
        refine g_iload_n lk_45_19 rfl ?_
        refine g_static (Qc := _) lk_45_20 (by decide) rfl (Nat.le_of_ble_eq_true rfl) rfl rfl (Nat.le_of_ble_eq_true rfl) (Nat.le_of_ble_eq_true rfl) (Nat.zero_le _) (Nat.zero_le _) (c_Table_isIn (by omega) (by omega)) ?_
        rintro _ N2 ⟨rfl, hN2⟩
        rw [hN2]
        show Wp _ 45 23 [(2, ((28 : Nat) : Int)), (0, (rs : Int)), (0, (cs : Int)), (1, ((wL T rs cs v r : Nat) : Int)), (9, 0), (0, (r : Int))] [(0, (if Nat.testBit rs r then (1 : Int) else 0))] M _ _ _
        refine g_if (t := 45) lk_45_23 rfl (by first | (unfold pm_inI; omega) | exact pm_and_in _ _ | exact pm_shr_in _ _ | exact pm_or_in _ _ | exact pm_xor_in _ _ | exact pm_shl_in _ _ | exact pm_cmp_in _ _ | exact pm_b8_in _ | (unfold pm_inI; split <;> omega)) (fun h3 => ?_) (fun h3 => ?_)
        · replace h3 : (if Nat.testBit rs r then (1 : Int) else 0) = 0 := h3
          refine g_iinc (ls' := [(2, ((28 : Nat) : Int)), (0, (rs : Int)), (0, (cs : Int)), (1, ((wL T rs cs v r : Nat) : Int)), (9, 0), (0, ((r : Int) + 1))]) lk_45_45 rfl rfl rfl ?_
          refine g_goto (t := 5) lk_45_48 rfl ?_
          omega
        · replace h3 : ¬ ((if Nat.testBit rs r then (1 : Int) else 0) = 0) := h3
          refine g_lload_n lk_45_26 rfl ?_
          refine g_aload_n lk_45_27 rfl ?_
          refine g_getfield lk_45_28 rfl (lay.on (by decide) rfl) (v := ((29 : Nat) : Int)) (lay.rf rfl) ?_
          refine g_iload lk_45_31 rfl ?_
          refine m_iaload (u := []) (M := M) lk_45_33 (lay.ay (by decide) rfl) (by omega) (j := r) (by omega) (v := pm_ct M 29 r) rfl ?_
          refine g_iload_n lk_45_34 rfl ?_
          refine g_iand lk_45_35 ?_
          refine g_i2l lk_45_36 (by unfold pm_inI; omega) ?_
          refine g_iload lk_45_37 rfl ?_
          refine g_bipush lk_45_39 ?_
          refine g_imul lk_45_41 ?_
          refine g_lshl lk_45_42 ?_
          refine g_lor lk_45_43 ?_
          refine g_lstore_n (ls' := [(2, ((28 : Nat) : Int)), (0, (rs : Int)), (0, (cs : Int)), (1, (pm_orL ((wL T rs cs v r : Nat) : Int) (pm_shlL (pm_and (pm_ct M 29 r) (cs : Int)) ((r : Int) * 6)))), (9, 0), (0, (r : Int))]) lk_45_44 rfl rfl ?_
          refine g_iinc (ls' := [(2, ((28 : Nat) : Int)), (0, (rs : Int)), (0, (cs : Int)), (1, (pm_orL ((wL T rs cs v r : Nat) : Int) (pm_shlL (pm_and (pm_ct M 29 r) (cs : Int)) ((r : Int) * 6)))), (9, 0), (0, ((r : Int) + 1))]) lk_45_45 rfl rfl rfl ?_
          refine g_goto (t := 5) lk_45_48 rfl ?_
          omega
    | succ n ih =>
      intro r hr
      have e := wL_s T rs cs v r
      have k1 : wL T rs cs v r < 9223372036854775808 := Nat.lt_of_lt_of_le (wL_lt hT rs cs v r) (Nat.le_trans (Nat.pow_le_pow_right (n := 2) (by omega) (by omega : 6 * r ≤ 36)) (by decide))
      have k2 := oRow_64 hT r v (Nat.le_refl _)
      have hand : pm_and ((oRow T r v (tC T) : Nat) : Int) (cs : Int) = ((oRow T r v (tC T) &&& cs : Nat) : Int) := pm_and_n (by omega) (by omega)
      have k3 : oRow T r v (tC T) &&& cs < 64 := Nat.lt_of_le_of_lt Nat.and_le_left k2
      have k4 : (oRow T r v (tC T) &&& cs) * 2 ^ (6 * r) < 9223372036854775808 := Nat.lt_of_lt_of_le (mul_lt_pow (k := 6) k3) (Nat.le_trans (Nat.pow_le_pow_right (n := 2) (by omega) (by omega : 6 * r + 6 ≤ 62)) (by decide))
      have hsh : pm_shlL ((oRow T r v (tC T) &&& cs : Nat) : Int) ((r : Int) * 6) = (((oRow T r v (tC T) &&& cs) * 2 ^ (6 * r) : Nat) : Int) := by
        have := pm_shlL_n (k := 6 * r) (by omega) k4
        rw [show (r : Int) * 6 = ((6 * r : Nat) : Int) by omega]
        exact this
      refine g_iload lk_45_5 rfl ?_
      refine g_aload_n lk_45_7 rfl ?_
      refine g_getfield lk_45_8 rfl (lay.on (by decide) rfl) (v := ((24 : Nat) : Int)) (lay.rf rfl) ?_
      refine m_getfield (u := []) (M := M) lk_45_11 rfl (lay.on (by decide) rfl) (v := (tR T : Int)) hM.1 ?_
      refine g_icmp (t := 51) lk_45_14 rfl (by first | (unfold pm_inI; omega) | exact pm_and_in _ _ | exact pm_shr_in _ _ | exact pm_or_in _ _ | exact pm_xor_in _ _ | exact pm_shl_in _ _ | exact pm_cmp_in _ _ | exact pm_b8_in _ | (unfold pm_inI; split <;> omega)) (by first | (unfold pm_inI; omega) | exact pm_and_in _ _ | exact pm_shr_in _ _ | exact pm_or_in _ _ | exact pm_xor_in _ _ | exact pm_shl_in _ _ | exact pm_cmp_in _ _ | exact pm_b8_in _ | (unfold pm_inI; split <;> omega)) (fun h1 => ?_) (fun h1 => ?_)
      · replace h1 : (tR T : Int) ≤ (r : Int) := h1
        refine g_lload_n lk_45_51 rfl ?_
        refine g_lreturn lk_45_52 ?_
        omega
      · replace h1 : ¬ ((tR T : Int) ≤ (r : Int)) := h1
        refine g_iload lk_45_17 rfl ?_
        refine g_iload_n lk_45_19 rfl ?_
        refine g_static (Qc := _) lk_45_20 (by decide) rfl (Nat.le_of_ble_eq_true rfl) rfl rfl (Nat.le_of_ble_eq_true rfl) (Nat.le_of_ble_eq_true rfl) (Nat.zero_le _) (Nat.zero_le _) (c_Table_isIn (by omega) (by omega)) ?_
        rintro _ N2 ⟨rfl, hN2⟩
        rw [hN2]
        show Wp _ 45 23 [(2, ((28 : Nat) : Int)), (0, (rs : Int)), (0, (cs : Int)), (1, ((wL T rs cs v r : Nat) : Int)), (9, 0), (0, (r : Int))] [(0, (if Nat.testBit rs r then (1 : Int) else 0))] M _ _ _
        refine g_if (t := 45) lk_45_23 rfl (by first | (unfold pm_inI; omega) | exact pm_and_in _ _ | exact pm_shr_in _ _ | exact pm_or_in _ _ | exact pm_xor_in _ _ | exact pm_shl_in _ _ | exact pm_cmp_in _ _ | exact pm_b8_in _ | (unfold pm_inI; split <;> omega)) (fun h3 => ?_) (fun h3 => ?_)
        · replace h3 : (if Nat.testBit rs r then (1 : Int) else 0) = 0 := h3
          refine g_iinc (ls' := [(2, ((28 : Nat) : Int)), (0, (rs : Int)), (0, (cs : Int)), (1, ((wL T rs cs v r : Nat) : Int)), (9, 0), (0, ((r : Int) + 1))]) lk_45_45 rfl rfl rfl ?_
          refine g_goto (t := 5) lk_45_48 rfl ?_
          rw [if_neg (by simp_all)] at e
          rw [← e]
          exact ih (r + 1) (by omega)
        · replace h3 : ¬ ((if Nat.testBit rs r then (1 : Int) else 0) = 0) := h3
          refine g_lload_n lk_45_26 rfl ?_
          refine g_aload_n lk_45_27 rfl ?_
          refine g_getfield lk_45_28 rfl (lay.on (by decide) rfl) (v := ((29 : Nat) : Int)) (lay.rf rfl) ?_
          refine g_iload lk_45_31 rfl ?_
          refine m_iaload (u := []) (M := M) lk_45_33 (lay.ay (by decide) rfl) (by omega) (j := r) (by omega) (v := ((oRow T r v (tC T) : Nat) : Int)) (hP r (by omega)).1 ?_
          refine g_iload_n lk_45_34 rfl ?_
          refine g_iand lk_45_35 ?_
          refine g_i2l lk_45_36 (by unfold pm_inI; omega) ?_
          refine g_iload lk_45_37 rfl ?_
          refine g_bipush lk_45_39 ?_
          refine g_imul lk_45_41 ?_
          refine g_lshl lk_45_42 ?_
          refine g_lor lk_45_43 ?_
          refine g_lstore_n (ls' := [(2, ((28 : Nat) : Int)), (0, (rs : Int)), (0, (cs : Int)), (1, (pm_orL ((wL T rs cs v r : Nat) : Int) (pm_shlL (pm_and ((oRow T r v (tC T) : Nat) : Int) (cs : Int)) ((r : Int) * 6)))), (9, 0), (0, (r : Int))]) lk_45_44 rfl rfl ?_
          refine g_iinc (ls' := [(2, ((28 : Nat) : Int)), (0, (rs : Int)), (0, (cs : Int)), (1, (pm_orL ((wL T rs cs v r : Nat) : Int) (pm_shlL (pm_and ((oRow T r v (tC T) : Nat) : Int) (cs : Int)) ((r : Int) * 6)))), (9, 0), (0, ((r : Int) + 1))]) lk_45_45 rfl rfl rfl ?_
          refine g_goto (t := 5) lk_45_48 rfl ?_
          rw [if_pos (by simp_all)] at e
          rw [hand, hsh, pm_orL_n k1 k4, ← e]
          exact ih (r + 1) (by omega)
  show Wp (d + 1) 45 0 [(2, ((28 : Nat) : Int)), (0, (rs : Int)), (0, (cs : Int)), (9, 0), (9, 0), (9, 0)] [] M mc ms Q
  refine g_lconst lk_45_0 ?_
  refine g_lstore_n (ls' := [(2, ((28 : Nat) : Int)), (0, (rs : Int)), (0, (cs : Int)), (1, 0), (9, 0), (9, 0)]) lk_45_1 rfl rfl ?_
  refine g_iconst lk_45_2 ?_
  refine g_istore (ls' := [(2, ((28 : Nat) : Int)), (0, (rs : Int)), (0, (cs : Int)), (1, 0), (9, 0), (0, 0)]) lk_45_3 rfl rfl ?_
  exact loop (tR T) 0 (by omega)
