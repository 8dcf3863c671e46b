/-! ===== Areas: what is seen ===== -/
def SeOK (M : pm_M) (T : Tab) (s : Nat) : Prop := ∀ rs cs, 1 ≤ rs → rs < 2 ^ tR T → 1 ≤ cs → cs < 2 ^ tC T → pm_ct M s (num T rs cs) = (sv T rs cs : Int)
theorem or2_tab : ∀ c : Fin 6, ∀ b : Fin 64, (b : Nat) < 2 ^ (c : Nat) → pm_or ((b : Nat) : Int) ((2 ^ (c : Nat) : Nat) : Int) = ((2 ^ (c : Nat) + (b : Nat) : Nat) : Int) ∧ ∀ j : Fin 6, (2 ^ (c : Nat) + (b : Nat)).testBit (j : Nat) = ((2 ^ (c : Nat)).testBit (j : Nat) || (b : Nat).testBit (j : Nat)) ∧ ((2 ^ (c : Nat)).testBit (j : Nat) && (b : Nat).testBit (j : Nat)) = false := by decide +kernel
theorem lw_bits : ∀ s : Fin 64, (s : Nat) ≠ 0 → ∀ j : Fin 6, (s : Nat).testBit (j : Nat) = ((lw s).testBit (j : Nat) || ((s : Nat) - lw s).testBit (j : Nat)) ∧ ((lw s).testBit (j : Nat) && ((s : Nat) - lw s).testBit (j : Nat)) = false := by decide +kernel
theorem p2_64 {k n : Nat} (hk : k < n) (hn : n ≤ 6) : 2 ^ k < 64 ∧ 2 ^ k < 2 ^ n ∧ 2 ^ k + 2 ^ k ≤ 2 ^ n := by
  have h1 : 2 ^ k < 2 ^ n := Nat.pow_lt_pow_right (by omega) hk
  have h2 : 2 ^ n ≤ 2 ^ 6 := Nat.pow_le_pow_right (by omega) hn
  have h3 : 2 ^ (k + 1) ≤ 2 ^ n := Nat.pow_le_pow_right (by omega) hk
  rw [Nat.pow_succ] at h3
  refine ⟨Nat.lt_of_lt_of_le h1 h2, h1, by omega⟩
theorem sv_c0 (T : Tab) (rs : Nat) : sv T rs 0 = 0 := by unfold sv; rw [vIn_c0, nA_c0]
set_option maxHeartbeats 8000000 in
theorem c_Areas_refreshRow {d mc ms : Nat} {M : pm_M} (lay0 : Lay M) {T : Tab} (hT : TabOK T) (hM0 : TbAt M 24 T) {s n : Nat} (hs : own s) (w1 : pm_ct M 44 1 = ((s : Nat) : Int)) (hay : pm_ay M s 100 n) (hn : siz T ≤ n) {r : Nat} (hr : r < tR T) :
    pm_E (d + 1) 7 [(2, ((44 : Nat) : Int)), (0, (r : Int))] M mc ms (fun ρ M' => ρ = none ∧ Lay M' ∧ Fr [s] M M' ∧ (∀ i, i < num T (2 ^ r) 0 → pm_ct M' s i = pm_ct M s i) ∧ ∀ cs, cs < 2 ^ tC T → pm_ct M' s (num T (2 ^ r) cs) = (sv T (2 ^ r) cs : Int)) := by
  obtain ⟨Q, hQ⟩ : ∃ Q : pm_Q, Q = (fun ρ M' => ρ = none ∧ Lay M' ∧ Fr [s] M M' ∧ (∀ i, i < num T (2 ^ r) 0 → pm_ct M' s i = pm_ct M s i) ∧ ∀ cs, cs < 2 ^ tC T → pm_ct M' s (num T (2 ^ r) cs) = (sv T (2 ^ r) cs : Int)) := ⟨_, rfl⟩
  rw [← hQ]
  have ht : (24 : Nat) = 4 ∨ (24 : Nat) = 24 := Or.inr rfl
  have hR := hT.1
  have hC := hT.2.1
  have fre := own_fre hs
  obtain ⟨p64, pR, _⟩ := p2_64 hr hR.2
  have shr1 : pm_shl 1 (r : Int) = ((2 ^ r : Nat) : Int) := pm_shl_1 (by omega)
  have s24 : 24 ∉ [s] := own_nm hs rfl
  have s25 : 25 ∉ [s] := own_nm hs rfl
  have s44 : 44 ∉ [s] := own_nm hs rfl
  obtain ⟨p, hp⟩ : ∃ p, p = 2 ^ r := ⟨_, rfl⟩
  rw [← hp] at p64 pR shr1 hQ
  have z4 := siz_le hT
  have inner : ∀ (k b c : Nat) (z3 : Int) (N : pm_M), b + k = 2 ^ c → c < tC T → Lay N → Fr [s] M N → (∀ i, i < num T p 0 → pm_ct N s i = pm_ct M s i) → (∀ cs, cs < 2 ^ c + b → pm_ct N s (num T p cs) = (sv T p cs : Int)) →
      (∀ (v3 v4 v5 : pm_V) (N' : pm_M), Lay N' → Fr [s] M N' → (∀ i, i < num T p 0 → pm_ct N' s i = pm_ct M s i) → (∀ cs, cs < 2 ^ (c + 1) → pm_ct N' s (num T p cs) = (sv T p cs : Int)) → Wp (d + 1) 7 16 [(2, ((44 : Nat) : Int)), (0, (r : Int)), (0, ((c + 1 : Nat) : Int)), v3, v4, v5] [] N' mc ms Q) →
      Wp (d + 1) 7 59 [(2, ((44 : Nat) : Int)), (0, (r : Int)), (0, (c : Int)), (0, z3), (0, ((sv T p (2 ^ c) : Nat) : Int)), (0, (b : Int))] [] N mc ms Q := by
    intro k
    induction k with
    | zero =>
      intro b c z3 N hb hc lay hF hlo hin go
      obtain ⟨c64, cC, _⟩ := p2_64 hc hC.2
      have shc : pm_shl 1 (c : Int) = ((2 ^ c : Nat) : Int) := pm_shl_1 (by omega)
      obtain ⟨q, hq⟩ : ∃ q, q = 2 ^ c := ⟨_, rfl⟩
      rw [← hq] at shc hb c64
      refine g_iload lk_7_59 rfl ?_
      refine g_iconst lk_7_61 ?_
      refine g_iload_n lk_7_62 rfl ?_
      refine g_ishl lk_7_63 ?_
      refine g_top (z := (pm_shl 1 (c : Int))) (z' := (q : Int)) (shc) ?_
      refine g_icmp (t := 110) lk_7_64 rfl (by first | (unfold pm_inI; omega) | exact pm_and_in _ _ | exact pm_shr_in _ _ | exact pm_or_in _ _ | exact pm_xor_in _ _ | exact pm_shl_in _ _ | exact pm_cmp_in _ _ | exact pm_b8_in _ | (unfold pm_inI; split <;> omega)) (by first | (unfold pm_inI; omega) | exact pm_and_in _ _ | exact pm_shr_in _ _ | exact pm_or_in _ _ | exact pm_xor_in _ _ | exact pm_shl_in _ _ | exact pm_cmp_in _ _ | exact pm_b8_in _ | (unfold pm_inI; split <;> omega)) (fun h1 => ?_) (fun h1 => ?_)
      · replace h1 : (q : Int) ≤ (b : Int) := h1
        refine g_iinc (ls' := [(2, ((44 : Nat) : Int)), (0, (r : Int)), (0, ((c : Int) + 1)), (0, z3), (0, ((sv T p (2 ^ c) : Nat) : Int)), (0, (b : Int))]) lk_7_110 rfl rfl rfl ?_
        refine g_goto (t := 16) lk_7_113 rfl ?_
        refine go _ _ _ N lay hF hlo (fun cs hcs => hin cs ?_)
        rw [Nat.pow_succ] at hcs; omega
      · replace h1 : ¬ ((q : Int) ≤ (b : Int)) := h1
        omega
    | succ k ih =>
      intro b c z3 N hb hc lay hF hlo hin go
      have hM : TbAt N 24 T := hM0.fr hF s24 s25
      obtain ⟨c64, cC, c2⟩ := p2_64 hc hC.2
      have shc : pm_shl 1 (c : Int) = ((2 ^ c : Nat) : Int) := pm_shl_1 (by omega)
      obtain ⟨o1, o2⟩ := or2_tab ⟨c, by omega⟩ ⟨b, by omega⟩ (show b < 2 ^ c by omega)
      replace o1 : pm_or (b : Int) ((2 ^ c : Nat) : Int) = ((2 ^ c + b : Nat) : Int) := o1
      replace o2 : ∀ j : Fin 6, (2 ^ c + b).testBit (j : Nat) = ((2 ^ c).testBit (j : Nat) || b.testBit (j : Nat)) ∧ ((2 ^ c).testBit (j : Nat) && b.testBit (j : Nat)) = false := o2
      have esv : (vIn T p (2 ^ c) ||| vIn T p b) + 1024 * (nA T p (2 ^ c) + nA T p b) = sv T p (2 ^ c + b) := by
        unfold sv
        rw [vIn_cols (a := 2 ^ c) (b := b) (fun j hj => (o2 ⟨j, by omega⟩).1), nA_cols (a := 2 ^ c) (b := b) (fun j hj => (o2 ⟨j, by omega⟩).1) (fun j hj => (o2 ⟨j, by omega⟩).2)]
      have jj := fun N => c_Areas_joined (d := d) (mc := 0) (ms := 0) (M := N) (vIn_lt T p (2 ^ c)) (vIn_lt T p b) (nA_36 hT p (2 ^ c)) (nA_36 hT p b)
      rw [esv] at jj
      have jj : ∀ N : pm_M, pm_E d 8 [(0, ((sv T p (2 ^ c) : Nat) : Int)), (0, ((sv T p b : Nat) : Int))] N 0 0 (fun ρ M' => ρ = some (0, ((sv T p (2 ^ c + b) : Nat) : Int)) ∧ M' = N) := jj
      have rd := hin b (by omega)
      have nl := num_lt (T := T) pR (show 2 ^ c + b < 2 ^ tC T by omega)
      have nl2 := num_lt (T := T) pR (show b < 2 ^ tC T by omega)
      obtain ⟨u, hu⟩ : ∃ u, u = sv T p b := ⟨_, rfl⟩
      obtain ⟨x, hx⟩ : ∃ x, x = sv T p (2 ^ c) := ⟨_, rfl⟩
      obtain ⟨y, hy⟩ : ∃ y, y = 2 ^ c + b := ⟨_, rfl⟩
      obtain ⟨q, hq⟩ : ∃ q, q = 2 ^ c := ⟨_, rfl⟩
      have nb := num_lt (T := T) pR (show b < 2 ^ tC T by omega)
      have e44 : pm_ct N 44 1 = ((s : Nat) : Int) := by rw [hF.ct s44]; exact w1
      rw [← hu] at rd
      have go' : ∀ N' : pm_M, N' = pm_up N s (pm_upd (pm_ct N s) (num T p y) ((sv T p y : Nat) : Int)) → Lay N' → Wp (d + 1) 7 59 [(2, ((44 : Nat) : Int)), (0, (r : Int)), (0, (c : Int)), (0, z3), (0, ((sv T p (2 ^ c) : Nat) : Int)), (0, ((b + 1 : Nat) : Int))] [] N' mc ms Q := by
        intro N' hN' lay'
        refine ih (b + 1) c z3 N' (by omega) hc lay' (hF.trans (Fr.up (List.mem_singleton.mpr rfl) hN')) (fun i hi => ?_) (fun cs hcs => ?_) go
        · rw [up_ct hN', pm_upd_ne (by unfold num at hi ⊢; omega)]; exact hlo i hi
        · rw [up_ct hN']
          by_cases e : cs = y
          · rw [e, pm_upd_eq]
          · rw [pm_upd_ne (fun q => e (num_inj (T := T) (by omega) (by omega) q).2)]; exact hin cs (by omega)
      have jj2 := fun N => jj N
      rw [← hx, ← hu, ← hy] at jj2
      rw [← hx] at go'
      rw [← hx]
      rw [← hy] at o1 nl
      rw [← hq] at o1 shc c64 cC hb
      refine g_iload lk_7_59 rfl ?_
      refine g_iconst lk_7_61 ?_
      refine g_iload_n lk_7_62 rfl ?_
      refine g_ishl lk_7_63 ?_
      refine g_top (z := (pm_shl 1 (c : Int))) (z' := (q : Int)) (shc) ?_
      refine g_icmp (t := 110) lk_7_64 rfl (by first | (unfold pm_inI; omega) | exact pm_and_in _ _ | exact pm_shr_in _ _ | exact pm_or_in _ _ | exact pm_xor_in _ _ | exact pm_shl_in _ _ | exact pm_cmp_in _ _ | exact pm_b8_in _ | (unfold pm_inI; split <;> omega)) (by first | (unfold pm_inI; omega) | exact pm_and_in _ _ | exact pm_shr_in _ _ | exact pm_or_in _ _ | exact pm_xor_in _ _ | exact pm_shl_in _ _ | exact pm_cmp_in _ _ | exact pm_b8_in _ | (unfold pm_inI; split <;> omega)) (fun h1 => ?_) (fun h1 => ?_)
      · replace h1 : (q : Int) ≤ (b : Int) := h1
        refine g_iinc (ls' := [(2, ((44 : Nat) : Int)), (0, (r : Int)), (0, ((c : Int) + 1)), (0, z3), (0, (x : Int)), (0, (b : Int))]) lk_7_110 rfl rfl rfl ?_
        refine g_goto (t := 16) lk_7_113 rfl ?_
        omega
      · replace h1 : ¬ ((q : Int) ≤ (b : Int)) := h1
        refine g_aload_n lk_7_67 rfl ?_
        refine m_getfield (u := []) (M := N) lk_7_68 rfl (lay.on (by decide) rfl) (v := ((s : Nat) : Int)) e44 ?_
        refine g_aload_n lk_7_71 rfl ?_
        refine g_iconst lk_7_72 ?_
        refine g_iload_n lk_7_73 rfl ?_
        refine g_ishl lk_7_74 ?_
        refine g_top (z := (pm_shl 1 (r : Int))) (z' := (p : Int)) (shr1) ?_
        refine g_iload lk_7_75 rfl ?_
        refine g_iconst lk_7_77 ?_
        refine g_iload_n lk_7_78 rfl ?_
        refine g_ishl lk_7_79 ?_
        refine g_top (z := (pm_shl 1 (c : Int))) (z' := (q : Int)) (shc) ?_
        refine g_ior lk_7_80 ?_
        refine g_top (z := (pm_or (b : Int) (q : Int))) (z' := (y : Int)) (o1) ?_
        refine g_virtual (p := 44) (Qc := _) lk_7_81 rfl (Nat.le_of_ble_eq_true rfl) rfl rfl (lay.on (by decide) rfl) (Nat.le_of_ble_eq_true rfl) (Nat.le_of_ble_eq_true rfl) (Nat.zero_le _) (Nat.zero_le _) (c_Areas_numberOf lay hT hM (by omega) (by omega)) ?_
        rintro _ N2 ⟨rfl, hN2⟩
        rw [hN2]
        show Wp _ 7 84 [(2, ((44 : Nat) : Int)), (0, (r : Int)), (0, (c : Int)), (0, z3), (0, (x : Int)), (0, (b : Int))] [(0, (num T p y : Int)), (2, ((s : Nat) : Int))] N _ _ _
        refine g_iload lk_7_84 rfl ?_
        refine g_aload_n lk_7_86 rfl ?_
        refine m_getfield (u := []) (M := N) lk_7_87 rfl (lay.on (by decide) rfl) (v := ((s : Nat) : Int)) e44 ?_
        refine g_aload_n lk_7_90 rfl ?_
        refine g_iconst lk_7_91 ?_
        refine g_iload_n lk_7_92 rfl ?_
        refine g_ishl lk_7_93 ?_
        refine g_top (z := (pm_shl 1 (r : Int))) (z' := (p : Int)) (shr1) ?_
        refine g_iload lk_7_94 rfl ?_
        refine g_virtual (p := 44) (Qc := _) lk_7_96 rfl (Nat.le_of_ble_eq_true rfl) rfl rfl (lay.on (by decide) rfl) (Nat.le_of_ble_eq_true rfl) (Nat.le_of_ble_eq_true rfl) (Nat.zero_le _) (Nat.zero_le _) (c_Areas_numberOf lay hT hM (by omega) (by omega)) ?_
        rintro _ N3 ⟨rfl, hN3⟩
        rw [hN3]
        show Wp _ 7 99 [(2, ((44 : Nat) : Int)), (0, (r : Int)), (0, (c : Int)), (0, z3), (0, (x : Int)), (0, (b : Int))] [(0, (num T p b : Int)), (2, ((s : Nat) : Int)), (0, (x : Int)), (0, (num T p y : Int)), (2, ((s : Nat) : Int))] N _ _ _
        refine g_iaload lk_7_99 (hF.ay hay) (by omega) (v := (u : Int)) rd ?_
        refine g_static (Qc := _) lk_7_100 (by decide) rfl (Nat.le_of_ble_eq_true rfl) rfl rfl (Nat.le_of_ble_eq_true rfl) (Nat.le_of_ble_eq_true rfl) (Nat.zero_le _) (Nat.zero_le _) (jj2 _) ?_
        rintro _ N4 ⟨rfl, hN4⟩
        rw [hN4]
        show Wp _ 7 103 [(2, ((44 : Nat) : Int)), (0, (r : Int)), (0, (c : Int)), (0, z3), (0, (x : Int)), (0, (b : Int))] [(0, ((sv T p y : Nat) : Int)), (0, (num T p y : Int)), (2, ((s : Nat) : Int))] N _ _ _
        refine s_iastore (M := N) lk_7_103 (hF.ay hay) (by omega) (j := (num T p y)) (by omega) (fun N5 hN5 => ?_)
        have lay5 : Lay N5 := (by rw [hN5]; exact lay.upA fre)
        refine g_iinc (ls' := [(2, ((44 : Nat) : Int)), (0, (r : Int)), (0, (c : Int)), (0, z3), (0, (x : Int)), (0, ((b : Int) + 1))]) lk_7_104 rfl rfl rfl ?_
        refine g_goto (t := 59) lk_7_107 rfl ?_
        exact go' N5 hN5 lay5
  have outer : ∀ (k c : Nat) (v3 v4 v5 : pm_V) (N : pm_M), c + k = tC T → Lay N → Fr [s] M N → (∀ i, i < num T p 0 → pm_ct N s i = pm_ct M s i) → (∀ cs, cs < 2 ^ c → pm_ct N s (num T p cs) = (sv T p cs : Int)) → Wp (d + 1) 7 16 [(2, ((44 : Nat) : Int)), (0, (r : Int)), (0, (c : Int)), v3, v4, v5] [] N mc ms Q := by
    intro k
    induction k with
    | zero =>
      intro c v3 v4 v5 N hc lay hF hlo hin
      have hM : TbAt N 24 T := hM0.fr hF s24 s25
      refine g_iload_n lk_7_16 rfl ?_
      refine g_aload_n lk_7_17 rfl ?_
      refine g_getfield lk_7_18 rfl (lay.on (by decide) rfl) (v := ((24 : Nat) : Int)) (lay.rf rfl) ?_
      refine m_getfield (u := []) (M := N) lk_7_21 rfl (lay.on (by decide) rfl) (v := (tC T : Int)) hM.2.1 ?_
      refine g_icmp (t := 116) lk_7_24 rfl (by first | (unfold pm_inI; omega) | exact pm_and_in _ _ | exact pm_shr_in _ _ | exact pm_or_in _ _ | exact pm_xor_in _ _ | exact pm_shl_in _ _ | exact pm_cmp_in _ _ | exact pm_b8_in _ | (unfold pm_inI; split <;> omega)) (by first | (unfold pm_inI; omega) | exact pm_and_in _ _ | exact pm_shr_in _ _ | exact pm_or_in _ _ | exact pm_xor_in _ _ | exact pm_shl_in _ _ | exact pm_cmp_in _ _ | exact pm_b8_in _ | (unfold pm_inI; split <;> omega)) (fun h1 => ?_) (fun h1 => ?_)
      · replace h1 : (tC T : Int) ≤ (c : Int) := h1
        refine g_return lk_7_116 ?_
        rw [hQ]
        exact ⟨rfl, lay, hF, hlo, fun cs hcs => hin cs (by rw [show c = tC T by omega]; exact hcs)⟩
      · replace h1 : ¬ ((tC T : Int) ≤ (c : Int)) := h1
        omega
    | succ k ih =>
      intro c v3 v4 v5 N hc lay hF hlo hin
      have hM : TbAt N 24 T := hM0.fr hF s24 s25
      have hx := hT.2.2.1 (6 * r + c)
      have esv : sv T p (2 ^ c) = if tX T (6 * r + c) = 10 then 0 else 2 ^ tX T (6 * r + c) + 1024 := by
        unfold sv
        rw [hp, vIn_one hT hr (by omega), nA_one hr (by omega)]
        split <;> omega
      have nxt := fun (z3 : Int) => inner (2 ^ c) 0 c z3 N (by omega) (by omega) lay hF hlo (fun cs h => hin cs (by omega)) (fun v3 v4 v5 N' a1 a2 a3 a4 => ih (c + 1) v3 v4 v5 N' (by omega) a1 a2 a3 a4)
      refine g_iload_n lk_7_16 rfl ?_
      refine g_aload_n lk_7_17 rfl ?_
      refine g_getfield lk_7_18 rfl (lay.on (by decide) rfl) (v := ((24 : Nat) : Int)) (lay.rf rfl) ?_
      refine m_getfield (u := []) (M := N) lk_7_21 rfl (lay.on (by decide) rfl) (v := (tC T : Int)) hM.2.1 ?_
      refine g_icmp (t := 116) lk_7_24 rfl (by first | (unfold pm_inI; omega) | exact pm_and_in _ _ | exact pm_shr_in _ _ | exact pm_or_in _ _ | exact pm_xor_in _ _ | exact pm_shl_in _ _ | exact pm_cmp_in _ _ | exact pm_b8_in _ | (unfold pm_inI; split <;> omega)) (by first | (unfold pm_inI; omega) | exact pm_and_in _ _ | exact pm_shr_in _ _ | exact pm_or_in _ _ | exact pm_xor_in _ _ | exact pm_shl_in _ _ | exact pm_cmp_in _ _ | exact pm_b8_in _ | (unfold pm_inI; split <;> omega)) (fun h1 => ?_) (fun h1 => ?_)
      · replace h1 : (tC T : Int) ≤ (c : Int) := h1
        refine g_return lk_7_116 ?_
        omega
      · replace h1 : ¬ ((tC T : Int) ≤ (c : Int)) := h1
        refine g_aload_n lk_7_27 rfl ?_
        refine g_getfield lk_7_28 rfl (lay.on (by decide) rfl) (v := ((24 : Nat) : Int)) (lay.rf rfl) ?_
        refine g_iload_n lk_7_31 rfl ?_
        refine g_iload_n lk_7_32 rfl ?_
        refine g_virtual (p := 24) (Qc := _) lk_7_33 rfl (Nat.le_of_ble_eq_true rfl) rfl rfl (lay.on (by decide) rfl) (Nat.le_of_ble_eq_true rfl) (Nat.le_of_ble_eq_true rfl) (Nat.zero_le _) (Nat.zero_le _) (c_Table_at lay ht hM (by omega) (by omega)) ?_
        rintro _ N2 ⟨rfl, hN2⟩
        rw [hN2]
        show Wp _ 7 36 [(2, ((44 : Nat) : Int)), (0, (r : Int)), (0, (c : Int)), v3, v4, v5] [(0, (tX T (6 * r + c) : Int))] N _ _ _
        refine g_istore_n (ls' := [(2, ((44 : Nat) : Int)), (0, (r : Int)), (0, (c : Int)), (0, (tX T (6 * r + c) : Int)), v4, v5]) lk_7_36 rfl rfl ?_
        refine g_iload_n lk_7_37 rfl ?_
        refine g_bipush lk_7_38 ?_
        refine g_icmp (t := 47) lk_7_40 rfl (by first | (unfold pm_inI; omega) | exact pm_and_in _ _ | exact pm_shr_in _ _ | exact pm_or_in _ _ | exact pm_xor_in _ _ | exact pm_shl_in _ _ | exact pm_cmp_in _ _ | exact pm_b8_in _ | (unfold pm_inI; split <;> omega)) (by first | (unfold pm_inI; omega) | exact pm_and_in _ _ | exact pm_shr_in _ _ | exact pm_or_in _ _ | exact pm_xor_in _ _ | exact pm_shl_in _ _ | exact pm_cmp_in _ _ | exact pm_b8_in _ | (unfold pm_inI; split <;> omega)) (fun h3 => ?_) (fun h3 => ?_)
        · replace h3 : ¬ (tX T (6 * r + c) : Int) = 10 := h3
          refine g_iconst lk_7_47 ?_
          refine g_iload_n lk_7_48 rfl ?_
          refine g_ishl lk_7_49 ?_
          refine g_sipush lk_7_50 ?_
          refine g_iadd lk_7_53 ?_
          refine g_istore (ls' := [(2, ((44 : Nat) : Int)), (0, (r : Int)), (0, (c : Int)), (0, (tX T (6 * r + c) : Int)), (0, ((pm_shl 1 (tX T (6 * r + c) : Int)) + 1024)), v5]) lk_7_54 rfl rfl ?_
          refine g_iconst lk_7_56 ?_
          refine g_istore (ls' := [(2, ((44 : Nat) : Int)), (0, (r : Int)), (0, (c : Int)), (0, (tX T (6 * r + c) : Int)), (0, ((pm_shl 1 (tX T (6 * r + c) : Int)) + 1024)), (0, 0)]) lk_7_57 rfl rfl ?_
          have sh9 : pm_shl 1 ((tX T (6 * r + c) : Nat) : Int) = ((2 ^ tX T (6 * r + c) : Nat) : Int) := pm_shl_1 (by omega)
          rw [if_neg (by omega)] at esv
          rw [sh9]
          have n1 := nxt (tX T (6 * r + c) : Int)
          rw [esv] at n1
          exact n1
        · replace h3 : ¬ (¬ (tX T (6 * r + c) : Int) = 10) := h3
          refine g_iconst lk_7_43 ?_
          refine g_goto (t := 54) lk_7_44 rfl ?_
          refine g_istore (ls' := [(2, ((44 : Nat) : Int)), (0, (r : Int)), (0, (c : Int)), (0, (tX T (6 * r + c) : Int)), (0, 0), v5]) lk_7_54 rfl rfl ?_
          refine g_iconst lk_7_56 ?_
          refine g_istore (ls' := [(2, ((44 : Nat) : Int)), (0, (r : Int)), (0, (c : Int)), (0, (tX T (6 * r + c) : Int)), (0, 0), (0, 0)]) lk_7_57 rfl rfl ?_
          rw [if_pos (by omega)] at esv
          have n1 := nxt (tX T (6 * r + c) : Int)
          rw [esv] at n1
          exact n1
  have n0 := num_lt (T := T) pR (show 0 < 2 ^ tC T from Nat.two_pow_pos _)
  have hM := hM0
  have pc : 0 < 2 ^ tC T := Nat.two_pow_pos _
  show Wp (d + 1) 7 0 [(2, ((44 : Nat) : Int)), (0, (r : Int)), (9, 0), (9, 0), (9, 0), (9, 0)] [] M mc ms Q
  refine g_aload_n lk_7_0 rfl ?_
  refine m_getfield (u := []) (M := M) lk_7_1 rfl (lay0.on (by decide) rfl) (v := ((s : Nat) : Int)) w1 ?_
  refine g_aload_n lk_7_4 rfl ?_
  refine g_iconst lk_7_5 ?_
  refine g_iload_n lk_7_6 rfl ?_
  refine g_ishl lk_7_7 ?_
  refine g_top (z := (pm_shl 1 (r : Int))) (z' := (p : Int)) (shr1) ?_
  refine g_iconst lk_7_8 ?_
  refine g_virtual (p := 44) (Qc := _) lk_7_9 rfl (Nat.le_of_ble_eq_true rfl) rfl rfl (lay0.on (by decide) rfl) (Nat.le_of_ble_eq_true rfl) (Nat.le_of_ble_eq_true rfl) (Nat.zero_le _) (Nat.zero_le _) (c_Areas_numberOf (cs := 0) lay0 hT hM (by omega) pc) ?_
  rintro _ N1 ⟨rfl, hN1⟩
  rw [hN1]
  show Wp _ 7 12 [(2, ((44 : Nat) : Int)), (0, (r : Int)), (9, 0), (9, 0), (9, 0), (9, 0)] [(0, (num T p 0 : Int)), (2, ((s : Nat) : Int))] M _ _ _
  refine g_iconst lk_7_12 ?_
  refine s_iastore (M := M) lk_7_13 hay (by omega) (j := (num T p 0)) (by omega) (fun N2 hN2 => ?_)
  have lay2 : Lay N2 := (by rw [hN2]; exact lay0.upA fre)
  refine g_iconst lk_7_14 ?_
  refine g_istore_n (ls' := [(2, ((44 : Nat) : Int)), (0, (r : Int)), (0, 0), (9, 0), (9, 0), (9, 0)]) lk_7_15 rfl rfl ?_
  refine outer (tC T) 0 _ _ _ N2 (by omega) lay2 (Fr.up (List.mem_singleton.mpr rfl) hN2) (fun i hi => ?_) (fun cs hcs => ?_)
  · rw [up_ct hN2, pm_upd_ne (by omega)]
  · rw [show cs = 0 by omega, up_ct hN2, pm_upd_eq, sv_c0]; rfl
