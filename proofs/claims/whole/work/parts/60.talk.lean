/-! ===== Best: talk ===== -/
theorem c_Best_priceOf0 {d mc ms : Nat} {M : pm_M} (lay : Lay M) {T : Tab} (hT : TabOK T) {s : Nat} (hA : CA M T s 1) (hh : pm_ct M 98 2 = 0) {c rs cs : Nat} (r1 : 1 ≤ rs) (r2 : rs < 2 ^ tR T) (c1 : 1 ≤ cs) (c2 : cs < 2 ^ tC T) :
    pm_E (d + 1) 15 [(2, ((98 : Nat) : Int)), (0, (c : Int)), (0, (num T rs cs : Int))] M mc ms (fun ρ M' => ρ = some (0, (prc T 0 c rs cs : Int)) ∧ M' = M) := by
  show Wp (d + 1) 15 0 [(2, ((98 : Nat) : Int)), (0, (c : Int)), (0, (num T rs cs : Int))] [] M mc ms _
  refine g_aload_n lk_15_0 rfl ?_
  refine m_getfield (u := []) (M := M) lk_15_1 rfl (lay.on (by decide) rfl) (v := 0) hh ?_
  refine g_lsw lk_15_4 (by first | (unfold pm_inI; omega) | exact pm_and_in _ _ | exact pm_shr_in _ _ | exact pm_or_in _ _ | exact pm_xor_in _ _ | exact pm_shl_in _ _ | exact pm_cmp_in _ _ | exact pm_b8_in _ | (unfold pm_inI; split <;> omega)) (And.intro (fun _ => ?_) (fun h => absurd rfl h))
  show Wp _ 15 32 [(2, ((98 : Nat) : Int)), (0, (c : Int)), (0, (num T rs cs : Int))] [] M _ _ _
  refine g_iload_n lk_15_32 rfl ?_
  refine g_ireturn lk_15_33 (fun h => absurd h (by decide)) ?_
  exact ⟨rfl, rfl⟩
set_option maxHeartbeats 4000000 in
theorem c_Best_talkOfA0 {d mc ms : Nat} {M : pm_M} (lay : Lay M) {T : Tab} (hT : TabOK T) (hM : TbAt M 24 T) {s : Nat} (hA : CA M T s 1) (hh : pm_ct M 98 2 = 0) {w n : Nat} (hw : own w) (h4 : pm_ct M 98 4 = ((w : Nat) : Int)) (hay : pm_ay M w 100 n) (hn : siz T ≤ n) {rs cs : Nat} (r1 : 1 ≤ rs) (r2 : rs < 2 ^ tR T) (c1 : 1 ≤ cs) (c2 : cs < 2 ^ tC T) (hsub : ∀ q, 1 ≤ q → q < rs → pm_ct M w (num T q cs) = (BW T 0 q cs : Int)) :
    pm_E (d + 2) 13 [(2, ((98 : Nat) : Int)), (0, (rs : Int)), (0, (cs : Int))] M mc ms (fun ρ M' => ρ = some (0, ((spl (sb 0) (fun q => BW T 0 q cs) rs + prc T 0 (tA T) rs cs : Nat) : Int)) ∧ Lay M' ∧ ∃ pk : Nat, Fr [44] M M' ∧ (∀ k, k ≠ 3 → pm_ct M' 44 k = pm_ct M 44 k) ∧ pm_ct M' 44 3 = (pk : Int) ∧ IsPk (sb 0) (fun q => BW T 0 q cs) rs pk) := by
  have r64 := lt_64_of hT.1.2 r2
  have c64 := lt_64_of hT.2.1.2 c2
  have sp := c_Areas_split (d := d) (mc := 0) (ms := 0) lay hw hay r64 (by omega : rs ≠ 0) (sh := tC T) (fx := cs) (ix := fun q => num T q cs) (g := fun q => BW T 0 q cs) (fun q hq => ⟨num_eq hT (by have := Sb_le hq; omega) c2, Nat.lt_of_lt_of_le (num_lt (by have := Sb_le hq; omega) c2) hn⟩) (fun q _ a b => ⟨hsub q a b, BW_far hT 0 (by omega) c64 a c1⟩) (b := sb 0) (by decide)
  show Wp (d + 2) 13 0 [(2, ((98 : Nat) : Int)), (0, (rs : Int)), (0, (cs : Int))] [] M mc ms _
  refine g_aload_n lk_13_0 rfl ?_
  refine g_getfield lk_13_1 rfl (lay.on (by decide) rfl) (v := ((44 : Nat) : Int)) (lay.rf rfl) ?_
  refine g_aload_n lk_13_4 rfl ?_
  refine m_getfield (u := []) (M := M) lk_13_5 rfl (lay.on (by decide) rfl) (v := ((w : Nat) : Int)) h4 ?_
  refine g_iload_n lk_13_8 rfl ?_
  refine g_aload_n lk_13_9 rfl ?_
  refine g_getfield lk_13_10 rfl (lay.on (by decide) rfl) (v := ((24 : Nat) : Int)) (lay.rf rfl) ?_
  refine m_getfield (u := []) (M := M) lk_13_13 rfl (lay.on (by decide) rfl) (v := (tC T : Int)) hM.2.1 ?_
  refine g_iload_n lk_13_16 rfl ?_
  refine g_aload_n lk_13_17 rfl ?_
  refine m_getfield (u := []) (M := M) lk_13_18 rfl (lay.on (by decide) rfl) (v := 0) hh ?_
  refine g_if (t := 28) lk_13_21 rfl (by first | (unfold pm_inI; omega) | exact pm_and_in _ _ | exact pm_shr_in _ _ | exact pm_or_in _ _ | exact pm_xor_in _ _ | exact pm_shl_in _ _ | exact pm_cmp_in _ _ | exact pm_b8_in _ | (unfold pm_inI; split <;> omega)) (fun _ => ?_) (fun h => absurd (show (0 : Int) = (0 : Int) by omega) h)
  refine g_iconst lk_13_28 ?_
  refine g_virtual (p := 44) (Qc := _) lk_13_29 rfl (Nat.le_of_ble_eq_true rfl) rfl rfl (lay.on (by decide) rfl) (Nat.le_of_ble_eq_true rfl) (Nat.le_of_ble_eq_true rfl) (Nat.zero_le _) (Nat.zero_le _) (sp) ?_
  rintro _ K1 ⟨rfl, lay1, pk, f1, f2, f3, f4⟩
  replace hM : TbAt K1 24 T := hM.fr f1 (by decide) (by decide)
  replace hA : CA K1 T s 1 := hA.fr f1.gr (f2 1 (by decide)) (f2 2 (by decide)) (fun q => own_ne hA.1 (a := 44) rfl (List.mem_singleton.mp q).symm)
  replace hh : pm_ct K1 98 2 = 0 := (by rw [f1.ct (by decide)]; exact hh)
  show Wp _ 13 32 [(2, ((98 : Nat) : Int)), (0, (rs : Int)), (0, (cs : Int))] [(0, (spl (sb 0) (fun q => BW T 0 q cs) rs : Int))] K1 _ _ _
  refine g_aload_n lk_13_32 rfl ?_
  refine g_aload_n lk_13_33 rfl ?_
  refine g_getfield lk_13_34 rfl (lay1.on (by decide) rfl) (v := ((24 : Nat) : Int)) (lay1.rf rfl) ?_
  refine m_getfield (u := []) (M := K1) lk_13_37 rfl (lay1.on (by decide) rfl) (v := (tA T : Int)) hM.2.2.1 ?_
  refine g_aload_n lk_13_40 rfl ?_
  refine g_getfield lk_13_41 rfl (lay1.on (by decide) rfl) (v := ((44 : Nat) : Int)) (lay1.rf rfl) ?_
  refine g_iload_n lk_13_44 rfl ?_
  refine g_iload_n lk_13_45 rfl ?_
  refine g_virtual (p := 44) (Qc := _) lk_13_46 rfl (Nat.le_of_ble_eq_true rfl) rfl rfl (lay1.on (by decide) rfl) (Nat.le_of_ble_eq_true rfl) (Nat.le_of_ble_eq_true rfl) (Nat.zero_le _) (Nat.zero_le _) (c_Areas_numberOf lay1 hT hM (by omega) (by omega)) ?_
  rintro _ N1 ⟨rfl, hN1⟩
  rw [hN1]
  show Wp _ 13 49 [(2, ((98 : Nat) : Int)), (0, (rs : Int)), (0, (cs : Int))] [(0, (num T rs cs : Int)), (0, (tA T : Int)), (2, ((98 : Nat) : Int)), (0, (spl (sb 0) (fun q => BW T 0 q cs) rs : Int))] K1 _ _ _
  refine g_virtual (p := 98) (Qc := _) lk_13_49 rfl (Nat.le_of_ble_eq_true rfl) rfl rfl (lay1.on (by decide) rfl) (Nat.le_of_ble_eq_true rfl) (Nat.le_of_ble_eq_true rfl) (Nat.zero_le _) (Nat.zero_le _) (c_Best_priceOf0 lay1 hT hA hh r1 r2 c1 c2) ?_
  rintro _ N2 ⟨rfl, hN2⟩
  rw [hN2]
  show Wp _ 13 52 [(2, ((98 : Nat) : Int)), (0, (rs : Int)), (0, (cs : Int))] [(0, (prc T 0 (tA T) rs cs : Int)), (0, (spl (sb 0) (fun q => BW T 0 q cs) rs : Int))] K1 _ _ _
  refine g_iadd lk_13_52 ?_
  refine g_ireturn lk_13_53 (fun h => absurd h (by decide)) ?_
  exact ⟨rfl, lay1, pk, f1, f2, f3, f4⟩
set_option maxHeartbeats 4000000 in
theorem c_Best_talkOfB0 {d mc ms : Nat} {M : pm_M} (lay : Lay M) {T : Tab} (hT : TabOK T) (hM : TbAt M 24 T) {s : Nat} (hA : CA M T s 1) (hh : pm_ct M 98 2 = 0) {w n : Nat} (hw : own w) (h4 : pm_ct M 98 4 = ((w : Nat) : Int)) (hay : pm_ay M w 100 n) (hn : siz T ≤ n) {rs cs : Nat} (r1 : 1 ≤ rs) (r2 : rs < 2 ^ tR T) (c1 : 1 ≤ cs) (c2 : cs < 2 ^ tC T) (hsub : ∀ q, 1 ≤ q → q < cs → pm_ct M w (num T rs q) = (BW T 0 rs q : Int)) :
    pm_E (d + 2) 14 [(2, ((98 : Nat) : Int)), (0, (rs : Int)), (0, (cs : Int))] M mc ms (fun ρ M' => ρ = some (0, ((spl (sb 0) (fun q => BW T 0 rs q) cs + prc T 0 (tB T) rs cs : Nat) : Int)) ∧ Lay M' ∧ ∃ pk : Nat, Fr [44] M M' ∧ (∀ k, k ≠ 3 → pm_ct M' 44 k = pm_ct M 44 k) ∧ pm_ct M' 44 3 = (pk : Int) ∧ IsPk (sb 0) (fun q => BW T 0 rs q) cs pk) := by
  have r64 := lt_64_of hT.1.2 r2
  have c64 := lt_64_of hT.2.1.2 c2
  have sp := c_Areas_split (d := d) (mc := 0) (ms := 0) lay hw hay c64 (by omega : cs ≠ 0) (sh := 0) (fx := rs * 2 ^ tC T) (ix := fun q => num T rs q) (g := fun q => BW T 0 rs q) (fun q hq => ⟨numB_eq hT r64 (by have := Sb_le hq; omega), Nat.lt_of_lt_of_le (num_lt r2 (by have := Sb_le hq; omega)) hn⟩) (fun q _ a b => ⟨hsub q a b, BW_far hT 0 r64 (by omega) r1 a⟩) (b := sb 0) (by decide)
  have sC := shlC hT r64
  obtain ⟨fx, hfx⟩ : ∃ fx, fx = rs * 2 ^ tC T := ⟨_, rfl⟩
  rw [← hfx] at sp sC
  show Wp (d + 2) 14 0 [(2, ((98 : Nat) : Int)), (0, (rs : Int)), (0, (cs : Int))] [] M mc ms _
  refine g_aload_n lk_14_0 rfl ?_
  refine g_getfield lk_14_1 rfl (lay.on (by decide) rfl) (v := ((44 : Nat) : Int)) (lay.rf rfl) ?_
  refine g_aload_n lk_14_4 rfl ?_
  refine m_getfield (u := []) (M := M) lk_14_5 rfl (lay.on (by decide) rfl) (v := ((w : Nat) : Int)) h4 ?_
  refine g_iload_n lk_14_8 rfl ?_
  refine g_iconst lk_14_9 ?_
  refine g_iload_n lk_14_10 rfl ?_
  refine g_aload_n lk_14_11 rfl ?_
  refine g_getfield lk_14_12 rfl (lay.on (by decide) rfl) (v := ((24 : Nat) : Int)) (lay.rf rfl) ?_
  refine m_getfield (u := []) (M := M) lk_14_15 rfl (lay.on (by decide) rfl) (v := (tC T : Int)) hM.2.1 ?_
  refine g_ishl lk_14_18 ?_
  refine g_top (z := (pm_shl (rs : Int) (tC T : Int))) (z' := (fx : Int)) (sC) ?_
  refine g_aload_n lk_14_19 rfl ?_
  refine m_getfield (u := []) (M := M) lk_14_20 rfl (lay.on (by decide) rfl) (v := 0) hh ?_
  refine g_if (t := 30) lk_14_23 rfl (by first | (unfold pm_inI; omega) | exact pm_and_in _ _ | exact pm_shr_in _ _ | exact pm_or_in _ _ | exact pm_xor_in _ _ | exact pm_shl_in _ _ | exact pm_cmp_in _ _ | exact pm_b8_in _ | (unfold pm_inI; split <;> omega)) (fun _ => ?_) (fun h => absurd (show (0 : Int) = (0 : Int) by omega) h)
  refine g_iconst lk_14_30 ?_
  refine g_virtual (p := 44) (Qc := _) lk_14_31 rfl (Nat.le_of_ble_eq_true rfl) rfl rfl (lay.on (by decide) rfl) (Nat.le_of_ble_eq_true rfl) (Nat.le_of_ble_eq_true rfl) (Nat.zero_le _) (Nat.zero_le _) (sp) ?_
  rintro _ K1 ⟨rfl, lay1, pk, f1, f2, f3, f4⟩
  replace hM : TbAt K1 24 T := hM.fr f1 (by decide) (by decide)
  replace hA : CA K1 T s 1 := hA.fr f1.gr (f2 1 (by decide)) (f2 2 (by decide)) (fun q => own_ne hA.1 (a := 44) rfl (List.mem_singleton.mp q).symm)
  replace hh : pm_ct K1 98 2 = 0 := (by rw [f1.ct (by decide)]; exact hh)
  show Wp _ 14 34 [(2, ((98 : Nat) : Int)), (0, (rs : Int)), (0, (cs : Int))] [(0, (spl (sb 0) (fun q => BW T 0 rs q) cs : Int))] K1 _ _ _
  refine g_aload_n lk_14_34 rfl ?_
  refine g_aload_n lk_14_35 rfl ?_
  refine g_getfield lk_14_36 rfl (lay1.on (by decide) rfl) (v := ((24 : Nat) : Int)) (lay1.rf rfl) ?_
  refine m_getfield (u := []) (M := K1) lk_14_39 rfl (lay1.on (by decide) rfl) (v := (tB T : Int)) hM.2.2.2.1 ?_
  refine g_aload_n lk_14_42 rfl ?_
  refine g_getfield lk_14_43 rfl (lay1.on (by decide) rfl) (v := ((44 : Nat) : Int)) (lay1.rf rfl) ?_
  refine g_iload_n lk_14_46 rfl ?_
  refine g_iload_n lk_14_47 rfl ?_
  refine g_virtual (p := 44) (Qc := _) lk_14_48 rfl (Nat.le_of_ble_eq_true rfl) rfl rfl (lay1.on (by decide) rfl) (Nat.le_of_ble_eq_true rfl) (Nat.le_of_ble_eq_true rfl) (Nat.zero_le _) (Nat.zero_le _) (c_Areas_numberOf lay1 hT hM (by omega) (by omega)) ?_
  rintro _ N1 ⟨rfl, hN1⟩
  rw [hN1]
  show Wp _ 14 51 [(2, ((98 : Nat) : Int)), (0, (rs : Int)), (0, (cs : Int))] [(0, (num T rs cs : Int)), (0, (tB T : Int)), (2, ((98 : Nat) : Int)), (0, (spl (sb 0) (fun q => BW T 0 rs q) cs : Int))] K1 _ _ _
  refine g_virtual (p := 98) (Qc := _) lk_14_51 rfl (Nat.le_of_ble_eq_true rfl) rfl rfl (lay1.on (by decide) rfl) (Nat.le_of_ble_eq_true rfl) (Nat.le_of_ble_eq_true rfl) (Nat.zero_le _) (Nat.zero_le _) (c_Best_priceOf0 lay1 hT hA hh r1 r2 c1 c2) ?_
  rintro _ N2 ⟨rfl, hN2⟩
  rw [hN2]
  show Wp _ 14 54 [(2, ((98 : Nat) : Int)), (0, (rs : Int)), (0, (cs : Int))] [(0, (prc T 0 (tB T) rs cs : Int)), (0, (spl (sb 0) (fun q => BW T 0 rs q) cs : Int))] K1 _ _ _
  refine g_iadd lk_14_54 ?_
  refine g_ireturn lk_14_55 (fun h => absurd h (by decide)) ?_
  exact ⟨rfl, lay1, pk, f1, f2, f3, f4⟩
theorem c_Best_priceOf1 {d mc ms : Nat} {M : pm_M} (lay : Lay M) {T : Tab} (hT : TabOK T) {s : Nat} (hA : CA M T s 1) (hh : pm_ct M 104 2 = 1) {c rs cs : Nat} (r1 : 1 ≤ rs) (r2 : rs < 2 ^ tR T) (c1 : 1 ≤ cs) (c2 : cs < 2 ^ tC T) :
    pm_E (d + 1) 15 [(2, ((104 : Nat) : Int)), (0, (c : Int)), (0, (num T rs cs : Int))] M mc ms (fun ρ M' => ρ = some (0, (prc T 1 c rs cs : Int)) ∧ M' = M) := by
  show Wp (d + 1) 15 0 [(2, ((104 : Nat) : Int)), (0, (c : Int)), (0, (num T rs cs : Int))] [] M mc ms _
  refine g_aload_n lk_15_0 rfl ?_
  refine m_getfield (u := []) (M := M) lk_15_1 rfl (lay.on (by decide) rfl) (v := 1) hh ?_
  refine g_lsw lk_15_4 (by first | (unfold pm_inI; omega) | exact pm_and_in _ _ | exact pm_shr_in _ _ | exact pm_or_in _ _ | exact pm_xor_in _ _ | exact pm_shl_in _ _ | exact pm_cmp_in _ _ | exact pm_b8_in _ | (unfold pm_inI; split <;> omega)) (And.intro (fun h => absurd h (by decide)) (fun _ => (And.intro (fun _ => ?_) (fun h => absurd rfl h))))
  show Wp _ 15 34 [(2, ((104 : Nat) : Int)), (0, (c : Int)), (0, (num T rs cs : Int))] [] M _ _ _
  refine g_iconst lk_15_34 ?_
  refine g_ireturn lk_15_35 (fun h => absurd h (by decide)) ?_
  exact ⟨rfl, rfl⟩
set_option maxHeartbeats 4000000 in
theorem c_Best_talkOfA1 {d mc ms : Nat} {M : pm_M} (lay : Lay M) {T : Tab} (hT : TabOK T) (hM : TbAt M 24 T) {s : Nat} (hA : CA M T s 1) (hh : pm_ct M 104 2 = 1) {w n : Nat} (hw : own w) (h4 : pm_ct M 104 4 = ((w : Nat) : Int)) (hay : pm_ay M w 100 n) (hn : siz T ≤ n) {rs cs : Nat} (r1 : 1 ≤ rs) (r2 : rs < 2 ^ tR T) (c1 : 1 ≤ cs) (c2 : cs < 2 ^ tC T) (hsub : ∀ q, 1 ≤ q → q < rs → pm_ct M w (num T q cs) = (BW T 1 q cs : Int)) :
    pm_E (d + 2) 13 [(2, ((104 : Nat) : Int)), (0, (rs : Int)), (0, (cs : Int))] M mc ms (fun ρ M' => ρ = some (0, ((spl (sb 1) (fun q => BW T 1 q cs) rs + prc T 1 (tA T) rs cs : Nat) : Int)) ∧ Lay M' ∧ ∃ pk : Nat, Fr [44] M M' ∧ (∀ k, k ≠ 3 → pm_ct M' 44 k = pm_ct M 44 k) ∧ pm_ct M' 44 3 = (pk : Int) ∧ IsPk (sb 1) (fun q => BW T 1 q cs) rs pk) := by
  have r64 := lt_64_of hT.1.2 r2
  have c64 := lt_64_of hT.2.1.2 c2
  have sp := c_Areas_split (d := d) (mc := 0) (ms := 0) lay hw hay r64 (by omega : rs ≠ 0) (sh := tC T) (fx := cs) (ix := fun q => num T q cs) (g := fun q => BW T 1 q cs) (fun q hq => ⟨num_eq hT (by have := Sb_le hq; omega) c2, Nat.lt_of_lt_of_le (num_lt (by have := Sb_le hq; omega) c2) hn⟩) (fun q _ a b => ⟨hsub q a b, BW_far hT 1 (by omega) c64 a c1⟩) (b := sb 1) (by decide)
  show Wp (d + 2) 13 0 [(2, ((104 : Nat) : Int)), (0, (rs : Int)), (0, (cs : Int))] [] M mc ms _
  refine g_aload_n lk_13_0 rfl ?_
  refine g_getfield lk_13_1 rfl (lay.on (by decide) rfl) (v := ((44 : Nat) : Int)) (lay.rf rfl) ?_
  refine g_aload_n lk_13_4 rfl ?_
  refine m_getfield (u := []) (M := M) lk_13_5 rfl (lay.on (by decide) rfl) (v := ((w : Nat) : Int)) h4 ?_
  refine g_iload_n lk_13_8 rfl ?_
  refine g_aload_n lk_13_9 rfl ?_
  refine g_getfield lk_13_10 rfl (lay.on (by decide) rfl) (v := ((24 : Nat) : Int)) (lay.rf rfl) ?_
  refine m_getfield (u := []) (M := M) lk_13_13 rfl (lay.on (by decide) rfl) (v := (tC T : Int)) hM.2.1 ?_
  refine g_iload_n lk_13_16 rfl ?_
  refine g_aload_n lk_13_17 rfl ?_
  refine m_getfield (u := []) (M := M) lk_13_18 rfl (lay.on (by decide) rfl) (v := 1) hh ?_
  refine g_if (t := 28) lk_13_21 rfl (by first | (unfold pm_inI; omega) | exact pm_and_in _ _ | exact pm_shr_in _ _ | exact pm_or_in _ _ | exact pm_xor_in _ _ | exact pm_shl_in _ _ | exact pm_cmp_in _ _ | exact pm_b8_in _ | (unfold pm_inI; split <;> omega)) (fun h => absurd h (show ¬ ((1 : Int) = (0 : Int)) by omega)) (fun _ => ?_)
  refine g_iconst lk_13_24 ?_
  refine g_goto (t := 29) lk_13_25 rfl ?_
  refine g_virtual (p := 44) (Qc := _) lk_13_29 rfl (Nat.le_of_ble_eq_true rfl) rfl rfl (lay.on (by decide) rfl) (Nat.le_of_ble_eq_true rfl) (Nat.le_of_ble_eq_true rfl) (Nat.zero_le _) (Nat.zero_le _) (sp) ?_
  rintro _ K1 ⟨rfl, lay1, pk, f1, f2, f3, f4⟩
  replace hM : TbAt K1 24 T := hM.fr f1 (by decide) (by decide)
  replace hA : CA K1 T s 1 := hA.fr f1.gr (f2 1 (by decide)) (f2 2 (by decide)) (fun q => own_ne hA.1 (a := 44) rfl (List.mem_singleton.mp q).symm)
  replace hh : pm_ct K1 104 2 = 1 := (by rw [f1.ct (by decide)]; exact hh)
  show Wp _ 13 32 [(2, ((104 : Nat) : Int)), (0, (rs : Int)), (0, (cs : Int))] [(0, (spl (sb 1) (fun q => BW T 1 q cs) rs : Int))] K1 _ _ _
  refine g_aload_n lk_13_32 rfl ?_
  refine g_aload_n lk_13_33 rfl ?_
  refine g_getfield lk_13_34 rfl (lay1.on (by decide) rfl) (v := ((24 : Nat) : Int)) (lay1.rf rfl) ?_
  refine m_getfield (u := []) (M := K1) lk_13_37 rfl (lay1.on (by decide) rfl) (v := (tA T : Int)) hM.2.2.1 ?_
  refine g_aload_n lk_13_40 rfl ?_
  refine g_getfield lk_13_41 rfl (lay1.on (by decide) rfl) (v := ((44 : Nat) : Int)) (lay1.rf rfl) ?_
  refine g_iload_n lk_13_44 rfl ?_
  refine g_iload_n lk_13_45 rfl ?_
  refine g_virtual (p := 44) (Qc := _) lk_13_46 rfl (Nat.le_of_ble_eq_true rfl) rfl rfl (lay1.on (by decide) rfl) (Nat.le_of_ble_eq_true rfl) (Nat.le_of_ble_eq_true rfl) (Nat.zero_le _) (Nat.zero_le _) (c_Areas_numberOf lay1 hT hM (by omega) (by omega)) ?_
  rintro _ N1 ⟨rfl, hN1⟩
  rw [hN1]
  show Wp _ 13 49 [(2, ((104 : Nat) : Int)), (0, (rs : Int)), (0, (cs : Int))] [(0, (num T rs cs : Int)), (0, (tA T : Int)), (2, ((104 : Nat) : Int)), (0, (spl (sb 1) (fun q => BW T 1 q cs) rs : Int))] K1 _ _ _
  refine g_virtual (p := 104) (Qc := _) lk_13_49 rfl (Nat.le_of_ble_eq_true rfl) rfl rfl (lay1.on (by decide) rfl) (Nat.le_of_ble_eq_true rfl) (Nat.le_of_ble_eq_true rfl) (Nat.zero_le _) (Nat.zero_le _) (c_Best_priceOf1 lay1 hT hA hh r1 r2 c1 c2) ?_
  rintro _ N2 ⟨rfl, hN2⟩
  rw [hN2]
  show Wp _ 13 52 [(2, ((104 : Nat) : Int)), (0, (rs : Int)), (0, (cs : Int))] [(0, (prc T 1 (tA T) rs cs : Int)), (0, (spl (sb 1) (fun q => BW T 1 q cs) rs : Int))] K1 _ _ _
  refine g_iadd lk_13_52 ?_
  refine g_ireturn lk_13_53 (fun h => absurd h (by decide)) ?_
  exact ⟨rfl, lay1, pk, f1, f2, f3, f4⟩
set_option maxHeartbeats 4000000 in
theorem c_Best_talkOfB1 {d mc ms : Nat} {M : pm_M} (lay : Lay M) {T : Tab} (hT : TabOK T) (hM : TbAt M 24 T) {s : Nat} (hA : CA M T s 1) (hh : pm_ct M 104 2 = 1) {w n : Nat} (hw : own w) (h4 : pm_ct M 104 4 = ((w : Nat) : Int)) (hay : pm_ay M w 100 n) (hn : siz T ≤ n) {rs cs : Nat} (r1 : 1 ≤ rs) (r2 : rs < 2 ^ tR T) (c1 : 1 ≤ cs) (c2 : cs < 2 ^ tC T) (hsub : ∀ q, 1 ≤ q → q < cs → pm_ct M w (num T rs q) = (BW T 1 rs q : Int)) :
    pm_E (d + 2) 14 [(2, ((104 : Nat) : Int)), (0, (rs : Int)), (0, (cs : Int))] M mc ms (fun ρ M' => ρ = some (0, ((spl (sb 1) (fun q => BW T 1 rs q) cs + prc T 1 (tB T) rs cs : Nat) : Int)) ∧ Lay M' ∧ ∃ pk : Nat, Fr [44] M M' ∧ (∀ k, k ≠ 3 → pm_ct M' 44 k = pm_ct M 44 k) ∧ pm_ct M' 44 3 = (pk : Int) ∧ IsPk (sb 1) (fun q => BW T 1 rs q) cs pk) := by
  have r64 := lt_64_of hT.1.2 r2
  have c64 := lt_64_of hT.2.1.2 c2
  have sp := c_Areas_split (d := d) (mc := 0) (ms := 0) lay hw hay c64 (by omega : cs ≠ 0) (sh := 0) (fx := rs * 2 ^ tC T) (ix := fun q => num T rs q) (g := fun q => BW T 1 rs q) (fun q hq => ⟨numB_eq hT r64 (by have := Sb_le hq; omega), Nat.lt_of_lt_of_le (num_lt r2 (by have := Sb_le hq; omega)) hn⟩) (fun q _ a b => ⟨hsub q a b, BW_far hT 1 r64 (by omega) r1 a⟩) (b := sb 1) (by decide)
  have sC := shlC hT r64
  obtain ⟨fx, hfx⟩ : ∃ fx, fx = rs * 2 ^ tC T := ⟨_, rfl⟩
  rw [← hfx] at sp sC
  show Wp (d + 2) 14 0 [(2, ((104 : Nat) : Int)), (0, (rs : Int)), (0, (cs : Int))] [] M mc ms _
  refine g_aload_n lk_14_0 rfl ?_
  refine g_getfield lk_14_1 rfl (lay.on (by decide) rfl) (v := ((44 : Nat) : Int)) (lay.rf rfl) ?_
  refine g_aload_n lk_14_4 rfl ?_
  refine m_getfield (u := []) (M := M) lk_14_5 rfl (lay.on (by decide) rfl) (v := ((w : Nat) : Int)) h4 ?_
  refine g_iload_n lk_14_8 rfl ?_
  refine g_iconst lk_14_9 ?_
  refine g_iload_n lk_14_10 rfl ?_
  refine g_aload_n lk_14_11 rfl ?_
  refine g_getfield lk_14_12 rfl (lay.on (by decide) rfl) (v := ((24 : Nat) : Int)) (lay.rf rfl) ?_
  refine m_getfield (u := []) (M := M) lk_14_15 rfl (lay.on (by decide) rfl) (v := (tC T : Int)) hM.2.1 ?_
  refine g_ishl lk_14_18 ?_
  refine g_top (z := (pm_shl (rs : Int) (tC T : Int))) (z' := (fx : Int)) (sC) ?_
  refine g_aload_n lk_14_19 rfl ?_
  refine m_getfield (u := []) (M := M) lk_14_20 rfl (lay.on (by decide) rfl) (v := 1) hh ?_
  refine g_if (t := 30) lk_14_23 rfl (by first | (unfold pm_inI; omega) | exact pm_and_in _ _ | exact pm_shr_in _ _ | exact pm_or_in _ _ | exact pm_xor_in _ _ | exact pm_shl_in _ _ | exact pm_cmp_in _ _ | exact pm_b8_in _ | (unfold pm_inI; split <;> omega)) (fun h => absurd h (show ¬ ((1 : Int) = (0 : Int)) by omega)) (fun _ => ?_)
  refine g_iconst lk_14_26 ?_
  refine g_goto (t := 31) lk_14_27 rfl ?_
  refine g_virtual (p := 44) (Qc := _) lk_14_31 rfl (Nat.le_of_ble_eq_true rfl) rfl rfl (lay.on (by decide) rfl) (Nat.le_of_ble_eq_true rfl) (Nat.le_of_ble_eq_true rfl) (Nat.zero_le _) (Nat.zero_le _) (sp) ?_
  rintro _ K1 ⟨rfl, lay1, pk, f1, f2, f3, f4⟩
  replace hM : TbAt K1 24 T := hM.fr f1 (by decide) (by decide)
  replace hA : CA K1 T s 1 := hA.fr f1.gr (f2 1 (by decide)) (f2 2 (by decide)) (fun q => own_ne hA.1 (a := 44) rfl (List.mem_singleton.mp q).symm)
  replace hh : pm_ct K1 104 2 = 1 := (by rw [f1.ct (by decide)]; exact hh)
  show Wp _ 14 34 [(2, ((104 : Nat) : Int)), (0, (rs : Int)), (0, (cs : Int))] [(0, (spl (sb 1) (fun q => BW T 1 rs q) cs : Int))] K1 _ _ _
  refine g_aload_n lk_14_34 rfl ?_
  refine g_aload_n lk_14_35 rfl ?_
  refine g_getfield lk_14_36 rfl (lay1.on (by decide) rfl) (v := ((24 : Nat) : Int)) (lay1.rf rfl) ?_
  refine m_getfield (u := []) (M := K1) lk_14_39 rfl (lay1.on (by decide) rfl) (v := (tB T : Int)) hM.2.2.2.1 ?_
  refine g_aload_n lk_14_42 rfl ?_
  refine g_getfield lk_14_43 rfl (lay1.on (by decide) rfl) (v := ((44 : Nat) : Int)) (lay1.rf rfl) ?_
  refine g_iload_n lk_14_46 rfl ?_
  refine g_iload_n lk_14_47 rfl ?_
  refine g_virtual (p := 44) (Qc := _) lk_14_48 rfl (Nat.le_of_ble_eq_true rfl) rfl rfl (lay1.on (by decide) rfl) (Nat.le_of_ble_eq_true rfl) (Nat.le_of_ble_eq_true rfl) (Nat.zero_le _) (Nat.zero_le _) (c_Areas_numberOf lay1 hT hM (by omega) (by omega)) ?_
  rintro _ N1 ⟨rfl, hN1⟩
  rw [hN1]
  show Wp _ 14 51 [(2, ((104 : Nat) : Int)), (0, (rs : Int)), (0, (cs : Int))] [(0, (num T rs cs : Int)), (0, (tB T : Int)), (2, ((104 : Nat) : Int)), (0, (spl (sb 1) (fun q => BW T 1 rs q) cs : Int))] K1 _ _ _
  refine g_virtual (p := 104) (Qc := _) lk_14_51 rfl (Nat.le_of_ble_eq_true rfl) rfl rfl (lay1.on (by decide) rfl) (Nat.le_of_ble_eq_true rfl) (Nat.le_of_ble_eq_true rfl) (Nat.zero_le _) (Nat.zero_le _) (c_Best_priceOf1 lay1 hT hA hh r1 r2 c1 c2) ?_
  rintro _ N2 ⟨rfl, hN2⟩
  rw [hN2]
  show Wp _ 14 54 [(2, ((104 : Nat) : Int)), (0, (rs : Int)), (0, (cs : Int))] [(0, (prc T 1 (tB T) rs cs : Int)), (0, (spl (sb 1) (fun q => BW T 1 rs q) cs : Int))] K1 _ _ _
  refine g_iadd lk_14_54 ?_
  refine g_ireturn lk_14_55 (fun h => absurd h (by decide)) ?_
  exact ⟨rfl, lay1, pk, f1, f2, f3, f4⟩
theorem c_Best_priceOf2 {d mc ms : Nat} {M : pm_M} (lay : Lay M) {T : Tab} (hT : TabOK T) {s : Nat} (hA : CA M T s 1) (hh : pm_ct M 110 2 = 2) {c rs cs : Nat} (r1 : 1 ≤ rs) (r2 : rs < 2 ^ tR T) (c1 : 1 ≤ cs) (c2 : cs < 2 ^ tC T) :
    pm_E (d + 1) 15 [(2, ((110 : Nat) : Int)), (0, (c : Int)), (0, (num T rs cs : Int))] M mc ms (fun ρ M' => ρ = some (0, (prc T 2 c rs cs : Int)) ∧ M' = M) := by
  show Wp (d + 1) 15 0 [(2, ((110 : Nat) : Int)), (0, (c : Int)), (0, (num T rs cs : Int))] [] M mc ms _
  refine g_aload_n lk_15_0 rfl ?_
  refine m_getfield (u := []) (M := M) lk_15_1 rfl (lay.on (by decide) rfl) (v := 2) hh ?_
  refine g_lsw lk_15_4 (by first | (unfold pm_inI; omega) | exact pm_and_in _ _ | exact pm_shr_in _ _ | exact pm_or_in _ _ | exact pm_xor_in _ _ | exact pm_shl_in _ _ | exact pm_cmp_in _ _ | exact pm_b8_in _ | (unfold pm_inI; split <;> omega)) (And.intro (fun h => absurd h (by decide)) (fun _ => (And.intro (fun h => absurd h (by decide)) (fun _ => ?_))))
  show Wp _ 15 36 [(2, ((110 : Nat) : Int)), (0, (c : Int)), (0, (num T rs cs : Int))] [] M _ _ _
  refine g_iload_n lk_15_36 rfl ?_
  refine g_aload_n lk_15_37 rfl ?_
  refine g_getfield lk_15_38 rfl (lay.on (by decide) rfl) (v := ((44 : Nat) : Int)) (lay.rf rfl) ?_
  refine g_iload_n lk_15_41 rfl ?_
  refine g_virtual (p := 44) (Qc := _) lk_15_42 rfl (Nat.le_of_ble_eq_true rfl) rfl rfl (lay.on (by decide) rfl) (Nat.le_of_ble_eq_true rfl) (Nat.le_of_ble_eq_true rfl) (Nat.zero_le _) (Nat.zero_le _) (c_Areas_filledOf lay hT hA r1 r2 c1 c2) ?_
  rintro _ N1 ⟨rfl, hN1⟩
  rw [hN1]
  show Wp _ 15 45 [(2, ((110 : Nat) : Int)), (0, (c : Int)), (0, (num T rs cs : Int))] [(0, (nA T rs cs : Int)), (0, (c : Int))] M _ _ _
  refine g_imul lk_15_45 ?_
  refine g_ireturn lk_15_46 (fun h => absurd h (by decide)) ?_
  exact ⟨rfl, rfl⟩
set_option maxHeartbeats 4000000 in
theorem c_Best_talkOfA2 {d mc ms : Nat} {M : pm_M} (lay : Lay M) {T : Tab} (hT : TabOK T) (hM : TbAt M 24 T) {s : Nat} (hA : CA M T s 1) (hh : pm_ct M 110 2 = 2) {w n : Nat} (hw : own w) (h4 : pm_ct M 110 4 = ((w : Nat) : Int)) (hay : pm_ay M w 100 n) (hn : siz T ≤ n) {rs cs : Nat} (r1 : 1 ≤ rs) (r2 : rs < 2 ^ tR T) (c1 : 1 ≤ cs) (c2 : cs < 2 ^ tC T) (hsub : ∀ q, 1 ≤ q → q < rs → pm_ct M w (num T q cs) = (BW T 2 q cs : Int)) :
    pm_E (d + 2) 13 [(2, ((110 : Nat) : Int)), (0, (rs : Int)), (0, (cs : Int))] M mc ms (fun ρ M' => ρ = some (0, ((spl (sb 2) (fun q => BW T 2 q cs) rs + prc T 2 (tA T) rs cs : Nat) : Int)) ∧ Lay M' ∧ ∃ pk : Nat, Fr [44] M M' ∧ (∀ k, k ≠ 3 → pm_ct M' 44 k = pm_ct M 44 k) ∧ pm_ct M' 44 3 = (pk : Int) ∧ IsPk (sb 2) (fun q => BW T 2 q cs) rs pk) := by
  have r64 := lt_64_of hT.1.2 r2
  have c64 := lt_64_of hT.2.1.2 c2
  have sp := c_Areas_split (d := d) (mc := 0) (ms := 0) lay hw hay r64 (by omega : rs ≠ 0) (sh := tC T) (fx := cs) (ix := fun q => num T q cs) (g := fun q => BW T 2 q cs) (fun q hq => ⟨num_eq hT (by have := Sb_le hq; omega) c2, Nat.lt_of_lt_of_le (num_lt (by have := Sb_le hq; omega) c2) hn⟩) (fun q _ a b => ⟨hsub q a b, BW_far hT 2 (by omega) c64 a c1⟩) (b := sb 2) (by decide)
  show Wp (d + 2) 13 0 [(2, ((110 : Nat) : Int)), (0, (rs : Int)), (0, (cs : Int))] [] M mc ms _
  refine g_aload_n lk_13_0 rfl ?_
  refine g_getfield lk_13_1 rfl (lay.on (by decide) rfl) (v := ((44 : Nat) : Int)) (lay.rf rfl) ?_
  refine g_aload_n lk_13_4 rfl ?_
  refine m_getfield (u := []) (M := M) lk_13_5 rfl (lay.on (by decide) rfl) (v := ((w : Nat) : Int)) h4 ?_
  refine g_iload_n lk_13_8 rfl ?_
  refine g_aload_n lk_13_9 rfl ?_
  refine g_getfield lk_13_10 rfl (lay.on (by decide) rfl) (v := ((24 : Nat) : Int)) (lay.rf rfl) ?_
  refine m_getfield (u := []) (M := M) lk_13_13 rfl (lay.on (by decide) rfl) (v := (tC T : Int)) hM.2.1 ?_
  refine g_iload_n lk_13_16 rfl ?_
  refine g_aload_n lk_13_17 rfl ?_
  refine m_getfield (u := []) (M := M) lk_13_18 rfl (lay.on (by decide) rfl) (v := 2) hh ?_
  refine g_if (t := 28) lk_13_21 rfl (by first | (unfold pm_inI; omega) | exact pm_and_in _ _ | exact pm_shr_in _ _ | exact pm_or_in _ _ | exact pm_xor_in _ _ | exact pm_shl_in _ _ | exact pm_cmp_in _ _ | exact pm_b8_in _ | (unfold pm_inI; split <;> omega)) (fun h => absurd h (show ¬ ((2 : Int) = (0 : Int)) by omega)) (fun _ => ?_)
  refine g_iconst lk_13_24 ?_
  refine g_goto (t := 29) lk_13_25 rfl ?_
  refine g_virtual (p := 44) (Qc := _) lk_13_29 rfl (Nat.le_of_ble_eq_true rfl) rfl rfl (lay.on (by decide) rfl) (Nat.le_of_ble_eq_true rfl) (Nat.le_of_ble_eq_true rfl) (Nat.zero_le _) (Nat.zero_le _) (sp) ?_
  rintro _ K1 ⟨rfl, lay1, pk, f1, f2, f3, f4⟩
  replace hM : TbAt K1 24 T := hM.fr f1 (by decide) (by decide)
  replace hA : CA K1 T s 1 := hA.fr f1.gr (f2 1 (by decide)) (f2 2 (by decide)) (fun q => own_ne hA.1 (a := 44) rfl (List.mem_singleton.mp q).symm)
  replace hh : pm_ct K1 110 2 = 2 := (by rw [f1.ct (by decide)]; exact hh)
  show Wp _ 13 32 [(2, ((110 : Nat) : Int)), (0, (rs : Int)), (0, (cs : Int))] [(0, (spl (sb 2) (fun q => BW T 2 q cs) rs : Int))] K1 _ _ _
  refine g_aload_n lk_13_32 rfl ?_
  refine g_aload_n lk_13_33 rfl ?_
  refine g_getfield lk_13_34 rfl (lay1.on (by decide) rfl) (v := ((24 : Nat) : Int)) (lay1.rf rfl) ?_
  refine m_getfield (u := []) (M := K1) lk_13_37 rfl (lay1.on (by decide) rfl) (v := (tA T : Int)) hM.2.2.1 ?_
  refine g_aload_n lk_13_40 rfl ?_
  refine g_getfield lk_13_41 rfl (lay1.on (by decide) rfl) (v := ((44 : Nat) : Int)) (lay1.rf rfl) ?_
  refine g_iload_n lk_13_44 rfl ?_
  refine g_iload_n lk_13_45 rfl ?_
  refine g_virtual (p := 44) (Qc := _) lk_13_46 rfl (Nat.le_of_ble_eq_true rfl) rfl rfl (lay1.on (by decide) rfl) (Nat.le_of_ble_eq_true rfl) (Nat.le_of_ble_eq_true rfl) (Nat.zero_le _) (Nat.zero_le _) (c_Areas_numberOf lay1 hT hM (by omega) (by omega)) ?_
  rintro _ N1 ⟨rfl, hN1⟩
  rw [hN1]
  show Wp _ 13 49 [(2, ((110 : Nat) : Int)), (0, (rs : Int)), (0, (cs : Int))] [(0, (num T rs cs : Int)), (0, (tA T : Int)), (2, ((110 : Nat) : Int)), (0, (spl (sb 2) (fun q => BW T 2 q cs) rs : Int))] K1 _ _ _
  refine g_virtual (p := 110) (Qc := _) lk_13_49 rfl (Nat.le_of_ble_eq_true rfl) rfl rfl (lay1.on (by decide) rfl) (Nat.le_of_ble_eq_true rfl) (Nat.le_of_ble_eq_true rfl) (Nat.zero_le _) (Nat.zero_le _) (c_Best_priceOf2 lay1 hT hA hh r1 r2 c1 c2) ?_
  rintro _ N2 ⟨rfl, hN2⟩
  rw [hN2]
  show Wp _ 13 52 [(2, ((110 : Nat) : Int)), (0, (rs : Int)), (0, (cs : Int))] [(0, (prc T 2 (tA T) rs cs : Int)), (0, (spl (sb 2) (fun q => BW T 2 q cs) rs : Int))] K1 _ _ _
  refine g_iadd lk_13_52 ?_
  refine g_ireturn lk_13_53 (fun h => absurd h (by decide)) ?_
  exact ⟨rfl, lay1, pk, f1, f2, f3, f4⟩
set_option maxHeartbeats 4000000 in
theorem c_Best_talkOfB2 {d mc ms : Nat} {M : pm_M} (lay : Lay M) {T : Tab} (hT : TabOK T) (hM : TbAt M 24 T) {s : Nat} (hA : CA M T s 1) (hh : pm_ct M 110 2 = 2) {w n : Nat} (hw : own w) (h4 : pm_ct M 110 4 = ((w : Nat) : Int)) (hay : pm_ay M w 100 n) (hn : siz T ≤ n) {rs cs : Nat} (r1 : 1 ≤ rs) (r2 : rs < 2 ^ tR T) (c1 : 1 ≤ cs) (c2 : cs < 2 ^ tC T) (hsub : ∀ q, 1 ≤ q → q < cs → pm_ct M w (num T rs q) = (BW T 2 rs q : Int)) :
    pm_E (d + 2) 14 [(2, ((110 : Nat) : Int)), (0, (rs : Int)), (0, (cs : Int))] M mc ms (fun ρ M' => ρ = some (0, ((spl (sb 2) (fun q => BW T 2 rs q) cs + prc T 2 (tB T) rs cs : Nat) : Int)) ∧ Lay M' ∧ ∃ pk : Nat, Fr [44] M M' ∧ (∀ k, k ≠ 3 → pm_ct M' 44 k = pm_ct M 44 k) ∧ pm_ct M' 44 3 = (pk : Int) ∧ IsPk (sb 2) (fun q => BW T 2 rs q) cs pk) := by
  have r64 := lt_64_of hT.1.2 r2
  have c64 := lt_64_of hT.2.1.2 c2
  have sp := c_Areas_split (d := d) (mc := 0) (ms := 0) lay hw hay c64 (by omega : cs ≠ 0) (sh := 0) (fx := rs * 2 ^ tC T) (ix := fun q => num T rs q) (g := fun q => BW T 2 rs q) (fun q hq => ⟨numB_eq hT r64 (by have := Sb_le hq; omega), Nat.lt_of_lt_of_le (num_lt r2 (by have := Sb_le hq; omega)) hn⟩) (fun q _ a b => ⟨hsub q a b, BW_far hT 2 r64 (by omega) r1 a⟩) (b := sb 2) (by decide)
  have sC := shlC hT r64
  obtain ⟨fx, hfx⟩ : ∃ fx, fx = rs * 2 ^ tC T := ⟨_, rfl⟩
  rw [← hfx] at sp sC
  show Wp (d + 2) 14 0 [(2, ((110 : Nat) : Int)), (0, (rs : Int)), (0, (cs : Int))] [] M mc ms _
  refine g_aload_n lk_14_0 rfl ?_
  refine g_getfield lk_14_1 rfl (lay.on (by decide) rfl) (v := ((44 : Nat) : Int)) (lay.rf rfl) ?_
  refine g_aload_n lk_14_4 rfl ?_
  refine m_getfield (u := []) (M := M) lk_14_5 rfl (lay.on (by decide) rfl) (v := ((w : Nat) : Int)) h4 ?_
  refine g_iload_n lk_14_8 rfl ?_
  refine g_iconst lk_14_9 ?_
  refine g_iload_n lk_14_10 rfl ?_
  refine g_aload_n lk_14_11 rfl ?_
  refine g_getfield lk_14_12 rfl (lay.on (by decide) rfl) (v := ((24 : Nat) : Int)) (lay.rf rfl) ?_
  refine m_getfield (u := []) (M := M) lk_14_15 rfl (lay.on (by decide) rfl) (v := (tC T : Int)) hM.2.1 ?_
  refine g_ishl lk_14_18 ?_
  refine g_top (z := (pm_shl (rs : Int) (tC T : Int))) (z' := (fx : Int)) (sC) ?_
  refine g_aload_n lk_14_19 rfl ?_
  refine m_getfield (u := []) (M := M) lk_14_20 rfl (lay.on (by decide) rfl) (v := 2) hh ?_
  refine g_if (t := 30) lk_14_23 rfl (by first | (unfold pm_inI; omega) | exact pm_and_in _ _ | exact pm_shr_in _ _ | exact pm_or_in _ _ | exact pm_xor_in _ _ | exact pm_shl_in _ _ | exact pm_cmp_in _ _ | exact pm_b8_in _ | (unfold pm_inI; split <;> omega)) (fun h => absurd h (show ¬ ((2 : Int) = (0 : Int)) by omega)) (fun _ => ?_)
  refine g_iconst lk_14_26 ?_
  refine g_goto (t := 31) lk_14_27 rfl ?_
  refine g_virtual (p := 44) (Qc := _) lk_14_31 rfl (Nat.le_of_ble_eq_true rfl) rfl rfl (lay.on (by decide) rfl) (Nat.le_of_ble_eq_true rfl) (Nat.le_of_ble_eq_true rfl) (Nat.zero_le _) (Nat.zero_le _) (sp) ?_
  rintro _ K1 ⟨rfl, lay1, pk, f1, f2, f3, f4⟩
  replace hM : TbAt K1 24 T := hM.fr f1 (by decide) (by decide)
  replace hA : CA K1 T s 1 := hA.fr f1.gr (f2 1 (by decide)) (f2 2 (by decide)) (fun q => own_ne hA.1 (a := 44) rfl (List.mem_singleton.mp q).symm)
  replace hh : pm_ct K1 110 2 = 2 := (by rw [f1.ct (by decide)]; exact hh)
  show Wp _ 14 34 [(2, ((110 : Nat) : Int)), (0, (rs : Int)), (0, (cs : Int))] [(0, (spl (sb 2) (fun q => BW T 2 rs q) cs : Int))] K1 _ _ _
  refine g_aload_n lk_14_34 rfl ?_
  refine g_aload_n lk_14_35 rfl ?_
  refine g_getfield lk_14_36 rfl (lay1.on (by decide) rfl) (v := ((24 : Nat) : Int)) (lay1.rf rfl) ?_
  refine m_getfield (u := []) (M := K1) lk_14_39 rfl (lay1.on (by decide) rfl) (v := (tB T : Int)) hM.2.2.2.1 ?_
  refine g_aload_n lk_14_42 rfl ?_
  refine g_getfield lk_14_43 rfl (lay1.on (by decide) rfl) (v := ((44 : Nat) : Int)) (lay1.rf rfl) ?_
  refine g_iload_n lk_14_46 rfl ?_
  refine g_iload_n lk_14_47 rfl ?_
  refine g_virtual (p := 44) (Qc := _) lk_14_48 rfl (Nat.le_of_ble_eq_true rfl) rfl rfl (lay1.on (by decide) rfl) (Nat.le_of_ble_eq_true rfl) (Nat.le_of_ble_eq_true rfl) (Nat.zero_le _) (Nat.zero_le _) (c_Areas_numberOf lay1 hT hM (by omega) (by omega)) ?_
  rintro _ N1 ⟨rfl, hN1⟩
  rw [hN1]
  show Wp _ 14 51 [(2, ((110 : Nat) : Int)), (0, (rs : Int)), (0, (cs : Int))] [(0, (num T rs cs : Int)), (0, (tB T : Int)), (2, ((110 : Nat) : Int)), (0, (spl (sb 2) (fun q => BW T 2 rs q) cs : Int))] K1 _ _ _
  refine g_virtual (p := 110) (Qc := _) lk_14_51 rfl (Nat.le_of_ble_eq_true rfl) rfl rfl (lay1.on (by decide) rfl) (Nat.le_of_ble_eq_true rfl) (Nat.le_of_ble_eq_true rfl) (Nat.zero_le _) (Nat.zero_le _) (c_Best_priceOf2 lay1 hT hA hh r1 r2 c1 c2) ?_
  rintro _ N2 ⟨rfl, hN2⟩
  rw [hN2]
  show Wp _ 14 54 [(2, ((110 : Nat) : Int)), (0, (rs : Int)), (0, (cs : Int))] [(0, (prc T 2 (tB T) rs cs : Int)), (0, (spl (sb 2) (fun q => BW T 2 rs q) cs : Int))] K1 _ _ _
  refine g_iadd lk_14_54 ?_
  refine g_ireturn lk_14_55 (fun h => absurd h (by decide)) ?_
  exact ⟨rfl, lay1, pk, f1, f2, f3, f4⟩
