/-! ===== bounds ===== -/
def bfr (s : Nat) : Nat → Nat → Nat
  | 0, n => n
  | k + 1, n => if 2 ^ n < s then bfr s k (n + 1) else n
theorem shl1 {n : Nat} (h : n < 12) : pm_shl 1 (n : Int) = ((2 ^ n : Nat) : Int) := shl1_tab ⟨n, by omega⟩
theorem pw_11 {n : Nat} (h : n < 12) : 2 ^ n ≤ 2048 := (Nat.pow_le_pow_right (by omega) (by omega) : 2 ^ n ≤ 2 ^ 11)
theorem cov_6 {T : Tab} (hT : TabOK T) {v n : Nat} (h : IsCov T v n) : n ≤ 6 := by
  refine Nat.le_of_not_lt (fun q => ?_)
  exact h.2 6 q (CV_mono (CV_enough hT v) (enough_6 hT v))
noncomputable def bCov (T : Tab) : Nat → Nat := sm (fun v => covN T v)
noncomputable def bFoo (T : Tab) : Nat → Nat := sm (fun v => (bK T v).length)
noncomputable def sBound (T : Tab) (w : Int) : Int := if w = 0 then (bfr (bCov T 10) 10 0 : Int) else if w = 1 then (bfr (bFoo T 10) 10 0 : Int) else if w = 2 then (bfr (rkT T 0 - 1 + 1) 10 0 : Int) else -1
theorem c_X_bitsFor {d mc ms : Nat} {M : pm_M} {s : Nat} (hs : s ≤ 60) :
    pm_E d 162 [(0, (s : Int))] M mc ms (fun ρ M' => ρ = some (0, (bfr s 10 0 : Int)) ∧ M' = M) := by
  obtain ⟨Q, hQ⟩ : ∃ Q : pm_Q, Q = (fun ρ M' => ρ = some (0, (bfr s 10 0 : Int)) ∧ M' = M) := ⟨_, rfl⟩
  rw [← hQ]
  have loop : ∀ (k n : Nat), n + k = 10 → bfr s 10 0 = bfr s k n → Wp d 162 2 [(0, (s : Int)), (0, (n : Int))] [] M mc ms Q := by
    intro k
    induction k with
    | zero =>
      intro n hn hb
      have n10 : n = 10 := by omega
      have e := shl1 (n := n) (by omega)
      have p10 : 2 ^ n = 1024 := by rw [n10]
      rw [p10] at e
      refine g_iload_n lk_162_2 rfl ?_
      refine g_bipush lk_162_3 ?_
      refine g_icmp (t := 21) lk_162_5 rfl (by first | (unfold pm_inI; omega) | exact pm_and_in _ _ | exact pm_shr_in _ _ | exact pm_or_in _ _ | exact pm_xor_in _ _ | exact pm_shl_in _ _ | exact pm_cmp_in _ _ | exact pm_b8_in _ | (unfold pm_inI; split <;> omega)) (by first | (unfold pm_inI; omega) | exact pm_and_in _ _ | exact pm_shr_in _ _ | exact pm_or_in _ _ | exact pm_xor_in _ _ | exact pm_shl_in _ _ | exact pm_cmp_in _ _ | exact pm_b8_in _ | (unfold pm_inI; split <;> omega)) (fun h1 => ?_) (fun h1 => ?_)
      · replace h1 : 30 ≤ (n : Int) := h1
        refine g_iload_n lk_162_21 rfl ?_
        refine g_ireturn lk_162_22 (fun h => absurd h (by decide)) ?_
        omega
      · replace h1 : ¬ (30 ≤ (n : Int)) := h1
        refine g_iconst lk_162_8 ?_
        refine g_iload_n lk_162_9 rfl ?_
        refine g_ishl lk_162_10 ?_
        refine g_top (z := (pm_shl 1 (n : Int))) (z' := ((1024 : Nat) : Int)) (e) ?_
        refine g_iload_n lk_162_11 rfl ?_
        refine g_icmp (t := 21) lk_162_12 rfl (by first | (unfold pm_inI; omega) | exact pm_and_in _ _ | exact pm_shr_in _ _ | exact pm_or_in _ _ | exact pm_xor_in _ _ | exact pm_shl_in _ _ | exact pm_cmp_in _ _ | exact pm_b8_in _ | (unfold pm_inI; split <;> omega)) (by first | (unfold pm_inI; omega) | exact pm_and_in _ _ | exact pm_shr_in _ _ | exact pm_or_in _ _ | exact pm_xor_in _ _ | exact pm_shl_in _ _ | exact pm_cmp_in _ _ | exact pm_b8_in _ | (unfold pm_inI; split <;> omega)) (fun h2 => ?_) (fun h2 => ?_)
        · replace h2 : (s : Int) ≤ ((1024 : Nat) : Int) := h2
          refine g_iload_n lk_162_21 rfl ?_
          refine g_ireturn lk_162_22 (fun h => absurd h (by decide)) ?_
          rw [hQ]
          exact ⟨by rw [hb]; rfl, rfl⟩
        · replace h2 : ¬ ((s : Int) ≤ ((1024 : Nat) : Int)) := h2
          omega
    | succ k ih =>
      intro n hn hb
      replace hb : bfr s 10 0 = if 2 ^ n < s then bfr s k (n + 1) else n := hb
      have e := shl1 (n := n) (by omega)
      have p11 := pw_11 (n := n) (by omega)
      obtain ⟨q, hq⟩ : ∃ q, q = 2 ^ n := ⟨_, rfl⟩
      rw [← hq] at e hb p11
      refine g_iload_n lk_162_2 rfl ?_
      refine g_bipush lk_162_3 ?_
      refine g_icmp (t := 21) lk_162_5 rfl (by first | (unfold pm_inI; omega) | exact pm_and_in _ _ | exact pm_shr_in _ _ | exact pm_or_in _ _ | exact pm_xor_in _ _ | exact pm_shl_in _ _ | exact pm_cmp_in _ _ | exact pm_b8_in _ | (unfold pm_inI; split <;> omega)) (by first | (unfold pm_inI; omega) | exact pm_and_in _ _ | exact pm_shr_in _ _ | exact pm_or_in _ _ | exact pm_xor_in _ _ | exact pm_shl_in _ _ | exact pm_cmp_in _ _ | exact pm_b8_in _ | (unfold pm_inI; split <;> omega)) (fun h1 => ?_) (fun h1 => ?_)
      · replace h1 : 30 ≤ (n : Int) := h1
        refine g_iload_n lk_162_21 rfl ?_
        refine g_ireturn lk_162_22 (fun h => absurd h (by decide)) ?_
        omega
      · replace h1 : ¬ (30 ≤ (n : Int)) := h1
        refine g_iconst lk_162_8 ?_
        refine g_iload_n lk_162_9 rfl ?_
        refine g_ishl lk_162_10 ?_
        refine g_top (z := (pm_shl 1 (n : Int))) (z' := (q : Int)) (e) ?_
        refine g_iload_n lk_162_11 rfl ?_
        refine g_icmp (t := 21) lk_162_12 rfl (by first | (unfold pm_inI; omega) | exact pm_and_in _ _ | exact pm_shr_in _ _ | exact pm_or_in _ _ | exact pm_xor_in _ _ | exact pm_shl_in _ _ | exact pm_cmp_in _ _ | exact pm_b8_in _ | (unfold pm_inI; split <;> omega)) (by first | (unfold pm_inI; omega) | exact pm_and_in _ _ | exact pm_shr_in _ _ | exact pm_or_in _ _ | exact pm_xor_in _ _ | exact pm_shl_in _ _ | exact pm_cmp_in _ _ | exact pm_b8_in _ | (unfold pm_inI; split <;> omega)) (fun h2 => ?_) (fun h2 => ?_)
        · replace h2 : (s : Int) ≤ (q : Int) := h2
          refine g_iload_n lk_162_21 rfl ?_
          refine g_ireturn lk_162_22 (fun h => absurd h (by decide)) ?_
          rw [if_neg (by omega)] at hb
          rw [hQ]
          exact ⟨by rw [hb], rfl⟩
        · replace h2 : ¬ ((s : Int) ≤ (q : Int)) := h2
          refine g_iinc (ls' := [(0, (s : Int)), (0, ((n : Int) + 1))]) lk_162_15 rfl rfl rfl ?_
          refine g_goto (t := 2) lk_162_18 rfl ?_
          rw [if_pos (by omega)] at hb
          exact ih (n + 1) (by omega) hb
  show Wp d 162 0 [(0, (s : Int)), (9, 0)] [] M mc ms Q
  refine g_iconst lk_162_0 ?_
  refine g_istore_n (ls' := [(0, (s : Int)), (0, 0)]) lk_162_1 rfl rfl ?_
  exact loop 10 0 (by omega) rfl
theorem c_X_allCovers {d mc ms : Nat} {M : pm_M} (lay0 : Lay M) {T : Tab} (hT : TabOK T) (hM0 : TbAt M 24 T) :
    pm_E (d + 11) 156 [(2, ((1 : Nat) : Int))] M mc ms (fun ρ M' => ρ = some (0, ((bCov T 10 : Nat) : Int)) ∧ bCov T 10 ≤ 60 ∧ Lay M' ∧ Fr sPF M M') := by
  obtain ⟨Q, hQ⟩ : ∃ Q : pm_Q, Q = (fun ρ M' => ρ = some (0, ((bCov T 10 : Nat) : Int)) ∧ bCov T 10 ≤ 60 ∧ Lay M' ∧ Fr sPF M M') := ⟨_, rfl⟩
  rw [← hQ]
  have loop : ∀ (k v : Nat) (N : pm_M), v + k = 10 → bCov T v ≤ 6 * v → Lay N → Fr sPF M N → Wp (d + 11) 156 4 [(2, ((1 : Nat) : Int)), (0, ((bCov T v : Nat) : Int)), (0, (v : Int))] [] N mc ms Q := by
    intro k
    induction k with
    | zero =>
      intro v N hv hb lay fr
      have e : v = 10 := by omega
      rw [e] at hb ⊢
      refine g_iload_n lk_156_4 rfl ?_
      refine g_bipush lk_156_5 ?_
      refine g_icmp (t := 24) lk_156_7 rfl (by first | (unfold pm_inI; omega) | exact pm_and_in _ _ | exact pm_shr_in _ _ | exact pm_or_in _ _ | exact pm_xor_in _ _ | exact pm_shl_in _ _ | exact pm_cmp_in _ _ | exact pm_b8_in _ | (unfold pm_inI; split <;> omega)) (by first | (unfold pm_inI; omega) | exact pm_and_in _ _ | exact pm_shr_in _ _ | exact pm_or_in _ _ | exact pm_xor_in _ _ | exact pm_shl_in _ _ | exact pm_cmp_in _ _ | exact pm_b8_in _ | (unfold pm_inI; split <;> omega)) (fun h1 => ?_) (fun h1 => ?_)
      · replace h1 : 10 ≤ ((10 : Nat) : Int) := h1
        refine g_iload_n lk_156_24 rfl ?_
        refine g_ireturn lk_156_25 (fun h => absurd h (by decide)) ?_
        rw [hQ]
        exact ⟨rfl, by omega, lay, fr⟩
      · replace h1 : ¬ (10 ≤ ((10 : Nat) : Int)) := h1
        omega
    | succ k ih =>
      intro v N hv hb lay fr
      have co := c_X_coverOf (d := d) (mc := 0) (ms := 0) lay hT (hM0.fr fr (by decide) (by decide)) (v := v) (by omega)
      have bs : bCov T (v + 1) = bCov T v + covN T v := rfl
      obtain ⟨a, ha⟩ : ∃ a, a = bCov T v := ⟨_, rfl⟩
      rw [← ha] at hb bs ⊢
      have go := fun (n : Nat) (hn : IsCov T v n) (K : pm_M) => show Lay K → Fr sPF M K → Wp (d + 11) 156 4 [(2, ((1 : Nat) : Int)), (0, (a : Int) + (n : Int)), (0, (v : Int) + 1)] [] K mc ms Q from fun l f => by
        have e1 := covN_eq hn
        have e2 := cov_6 hT hn
        have e3 : (a : Int) + (n : Int) = ((bCov T (v + 1) : Nat) : Int) := by rw [bs, ← e1]; omega
        rw [e3]
        exact ih (v + 1) K (by omega) (by rw [bs, ← e1]; omega) l f
      clear ih
      refine g_iload_n lk_156_4 rfl ?_
      refine g_bipush lk_156_5 ?_
      refine g_icmp (t := 24) lk_156_7 rfl (by first | (unfold pm_inI; omega) | exact pm_and_in _ _ | exact pm_shr_in _ _ | exact pm_or_in _ _ | exact pm_xor_in _ _ | exact pm_shl_in _ _ | exact pm_cmp_in _ _ | exact pm_b8_in _ | (unfold pm_inI; split <;> omega)) (by first | (unfold pm_inI; omega) | exact pm_and_in _ _ | exact pm_shr_in _ _ | exact pm_or_in _ _ | exact pm_xor_in _ _ | exact pm_shl_in _ _ | exact pm_cmp_in _ _ | exact pm_b8_in _ | (unfold pm_inI; split <;> omega)) (fun h1 => ?_) (fun h1 => ?_)
      · replace h1 : 10 ≤ (v : Int) := h1
        omega
      · replace h1 : ¬ (10 ≤ (v : Int)) := h1
        refine g_iload_n lk_156_10 rfl ?_
        refine g_aload_n lk_156_11 rfl ?_
        refine g_iload_n lk_156_12 rfl ?_
        refine g_virtual (p := 1) (Qc := _) lk_156_13 rfl (Nat.le_of_ble_eq_true rfl) rfl rfl (lay.on (by decide) rfl) (Nat.le_of_ble_eq_true rfl) (Nat.le_of_ble_eq_true rfl) (Nat.zero_le _) (Nat.zero_le _) (co) ?_
        rintro ρ K1 ⟨⟨n, hn, rfl⟩, lay1, f1⟩
        show Wp _ 156 16 [(2, ((1 : Nat) : Int)), (0, (a : Int)), (0, (v : Int))] [(0, (n : Int)), (0, (a : Int))] K1 _ _ _
        refine g_iadd lk_156_16 ?_
        refine g_istore_n (ls' := [(2, ((1 : Nat) : Int)), (0, ((a : Int) + (n : Int))), (0, (v : Int))]) lk_156_17 rfl rfl ?_
        refine g_iinc (ls' := [(2, ((1 : Nat) : Int)), (0, ((a : Int) + (n : Int))), (0, ((v : Int) + 1))]) lk_156_18 rfl rfl rfl ?_
        refine g_goto (t := 4) lk_156_21 rfl ?_
        exact go n hn K1 lay1 (fr.trans f1)
  show Wp (d + 11) 156 0 [(2, ((1 : Nat) : Int)), (9, 0), (9, 0)] [] M mc ms Q
  refine g_iconst lk_156_0 ?_
  refine g_istore_n (ls' := [(2, ((1 : Nat) : Int)), (0, 0), (9, 0)]) lk_156_1 rfl rfl ?_
  refine g_iconst lk_156_2 ?_
  refine g_istore_n (ls' := [(2, ((1 : Nat) : Int)), (0, 0), (0, 0)]) lk_156_3 rfl rfl ?_
  exact loop 10 0 M (by omega) (Nat.le_refl _) lay0 (Fr.refl _ _)
theorem c_X_allFooling {d mc ms : Nat} {M : pm_M} (lay0 : Lay M) {T : Tab} (hT : TabOK T) (hM0 : TbAt M 24 T) :
    pm_E (d + 9) 157 [(2, ((1 : Nat) : Int))] M mc ms (fun ρ M' => ρ = some (0, ((bFoo T 10 : Nat) : Int)) ∧ bFoo T 10 ≤ 60 ∧ Lay M' ∧ Fr sPF M M') := by
  obtain ⟨Q, hQ⟩ : ∃ Q : pm_Q, Q = (fun ρ M' => ρ = some (0, ((bFoo T 10 : Nat) : Int)) ∧ bFoo T 10 ≤ 60 ∧ Lay M' ∧ Fr sPF M M') := ⟨_, rfl⟩
  rw [← hQ]
  have loop : ∀ (k v : Nat) (N : pm_M), v + k = 10 → bFoo T v ≤ 6 * v → Lay N → Fr sPF M N → Wp (d + 9) 157 4 [(2, ((1 : Nat) : Int)), (0, ((bFoo T v : Nat) : Int)), (0, (v : Int))] [] N mc ms Q := by
    intro k
    induction k with
    | zero =>
      intro v N hv hb lay fr
      have e : v = 10 := by omega
      rw [e] at hb ⊢
      refine g_iload_n lk_157_4 rfl ?_
      refine g_bipush lk_157_5 ?_
      refine g_icmp (t := 41) lk_157_7 rfl (by first | (unfold pm_inI; omega) | exact pm_and_in _ _ | exact pm_shr_in _ _ | exact pm_or_in _ _ | exact pm_xor_in _ _ | exact pm_shl_in _ _ | exact pm_cmp_in _ _ | exact pm_b8_in _ | (unfold pm_inI; split <;> omega)) (by first | (unfold pm_inI; omega) | exact pm_and_in _ _ | exact pm_shr_in _ _ | exact pm_or_in _ _ | exact pm_xor_in _ _ | exact pm_shl_in _ _ | exact pm_cmp_in _ _ | exact pm_b8_in _ | (unfold pm_inI; split <;> omega)) (fun h1 => ?_) (fun h1 => ?_)
      · replace h1 : 10 ≤ ((10 : Nat) : Int) := h1
        refine g_iload_n lk_157_41 rfl ?_
        refine g_ireturn lk_157_42 (fun h => absurd h (by decide)) ?_
        rw [hQ]
        exact ⟨rfl, by omega, lay, fr⟩
      · replace h1 : ¬ (10 ≤ ((10 : Nat) : Int)) := h1
        omega
    | succ k ih =>
      intro v N hv hb lay fr
      have ta := c_Fools_take (d := d + 6) (mc := 0) (ms := 0) lay hT (hM0.fr fr (by decide) (by decide)) (v := v) (by omega)
      have bs : bFoo T (v + 1) = bFoo T v + (bK T v).length := rfl
      obtain ⟨a, ha⟩ : ∃ a, a = bFoo T v := ⟨_, rfl⟩
      obtain ⟨n, hn⟩ : ∃ n, n = (bK T v).length := ⟨_, rfl⟩
      rw [← ha] at hb bs ⊢
      rw [← hn] at bs
      have go := fun (n6 : n ≤ 6) (K : pm_M) => show Lay K → Fr sPF M K → Wp (d + 9) 157 4 [(2, ((1 : Nat) : Int)), (0, (a : Int) + (n : Int)), (0, (v : Int) + 1)] [] K mc ms Q from fun l f => by
        have e3 : (a : Int) + (n : Int) = ((bFoo T (v + 1) : Nat) : Int) := by rw [bs]; omega
        rw [e3]
        exact ih (v + 1) K (by omega) (by rw [bs]; omega) l f
      clear ih
      refine g_iload_n lk_157_4 rfl ?_
      refine g_bipush lk_157_5 ?_
      refine g_icmp (t := 41) lk_157_7 rfl (by first | (unfold pm_inI; omega) | exact pm_and_in _ _ | exact pm_shr_in _ _ | exact pm_or_in _ _ | exact pm_xor_in _ _ | exact pm_shl_in _ _ | exact pm_cmp_in _ _ | exact pm_b8_in _ | (unfold pm_inI; split <;> omega)) (by first | (unfold pm_inI; omega) | exact pm_and_in _ _ | exact pm_shr_in _ _ | exact pm_or_in _ _ | exact pm_xor_in _ _ | exact pm_shl_in _ _ | exact pm_cmp_in _ _ | exact pm_b8_in _ | (unfold pm_inI; split <;> omega)) (fun h1 => ?_) (fun h1 => ?_)
      · replace h1 : 10 ≤ (v : Int) := h1
        omega
      · replace h1 : ¬ (10 ≤ (v : Int)) := h1
        refine g_aload_n lk_157_10 rfl ?_
        refine g_getfield lk_157_11 rfl (lay.on (by decide) rfl) (v := ((34 : Nat) : Int)) (lay.rf rfl) ?_
        refine g_iload_n lk_157_14 rfl ?_
        refine g_virtual (p := 34) (Qc := _) lk_157_15 rfl (Nat.le_of_ble_eq_true rfl) rfl rfl (lay.on (by decide) rfl) (Nat.le_of_ble_eq_true rfl) (Nat.le_of_ble_eq_true rfl) (Nat.zero_le _) (Nat.zero_le _) (ta) ?_
        rintro _ K1 ⟨rfl, lay1, f1, fo1⟩
        have fg := c_Fools_findGreatest (d := d) (mc := 0) (ms := 0) lay1 hT fo1
        rw [← hn] at fg
        show Wp _ 157 18 [(2, ((1 : Nat) : Int)), (0, (a : Int)), (0, (v : Int))] [] K1 _ _ _
        refine g_aload_n lk_157_18 rfl ?_
        refine g_getfield lk_157_19 rfl (lay1.on (by decide) rfl) (v := ((34 : Nat) : Int)) (lay1.rf rfl) ?_
        refine g_virtual (p := 34) (Qc := _) lk_157_22 rfl (Nat.le_of_ble_eq_true rfl) rfl rfl (lay1.on (by decide) rfl) (Nat.le_of_ble_eq_true rfl) (Nat.le_of_ble_eq_true rfl) (Nat.zero_le _) (Nat.zero_le _) (fg) ?_
        rintro _ K2 ⟨rfl, lay2, f2, fo2, l2, n6, -⟩
        show Wp _ 157 25 [(2, ((1 : Nat) : Int)), (0, (a : Int)), (0, (v : Int))] [] K2 _ _ _
        refine g_iload_n lk_157_25 rfl ?_
        refine g_aload_n lk_157_26 rfl ?_
        refine g_getfield lk_157_27 rfl (lay2.on (by decide) rfl) (v := ((34 : Nat) : Int)) (lay2.rf rfl) ?_
        refine m_getfield (u := []) (M := K2) lk_157_30 rfl (lay2.on (by decide) rfl) (v := (n : Int)) l2 ?_
        refine g_iadd lk_157_33 ?_
        refine g_istore_n (ls' := [(2, ((1 : Nat) : Int)), (0, ((a : Int) + (n : Int))), (0, (v : Int))]) lk_157_34 rfl rfl ?_
        refine g_iinc (ls' := [(2, ((1 : Nat) : Int)), (0, ((a : Int) + (n : Int))), (0, ((v : Int) + 1))]) lk_157_35 rfl rfl rfl ?_
        refine g_goto (t := 4) lk_157_38 rfl ?_
        exact go n6 K2 lay2 ((fr.trans (f1.mono (fun a q => by unfold sPF; simp at q ⊢; omega))).trans (f2.mono (fun a q => by unfold sPF; simp at q ⊢; omega)))
  show Wp (d + 9) 157 0 [(2, ((1 : Nat) : Int)), (9, 0), (9, 0)] [] M mc ms Q
  refine g_iconst lk_157_0 ?_
  refine g_istore_n (ls' := [(2, ((1 : Nat) : Int)), (0, 0), (9, 0)]) lk_157_1 rfl rfl ?_
  refine g_iconst lk_157_2 ?_
  refine g_istore_n (ls' := [(2, ((1 : Nat) : Int)), (0, 0), (0, 0)]) lk_157_3 rfl rfl ?_
  exact loop 10 0 M (by omega) (Nat.le_refl _) lay0 (Fr.refl _ _)
theorem rk_6 {T : Tab} (hT : TabOK T) (p : Nat) : rkT T p ≤ 6 := by
  have := el_R (p := p) (R := tR T) (X0 := X0 T p) (tC T)
  have := hT.1
  unfold rkT
  omega
theorem c_X_bound {d mc ms : Nat} {M : pm_M} (lay0 : Lay M) {T : Tab} (hT : TabOK T) (hM0 : TbAt M 24 T) {w : Int} (hw : pm_inI w) :
    pm_E (d + 12) 140 [(2, ((1 : Nat) : Int)), (0, w)] M mc ms (fun ρ M' => ρ = some (0, sBound T w) ∧ Lay M' ∧ Fr (40 :: sPF) M M') := by
  have ac := c_X_allCovers (d := d) (mc := 0) (ms := 0) lay0 hT hM0
  have af := c_X_allFooling (d := d + 2) (mc := 0) (ms := 0) lay0 hT hM0
  have rb := c_Lines_rankBy (d := d + 9) (mc := 0) (ms := 0) lay0 hT hM0 (p := 0) (by omega)
  have r6 := rk_6 hT 0
  unfold sBound
  obtain ⟨s0, h0'⟩ : ∃ s, s = bCov T 10 := ⟨_, rfl⟩
  obtain ⟨s1, h1'⟩ : ∃ s, s = bFoo T 10 := ⟨_, rfl⟩
  obtain ⟨s2, h2'⟩ : ∃ s, s = rkT T 0 := ⟨_, rfl⟩
  rw [← h0'] at ac ⊢
  rw [← h1'] at af ⊢
  rw [← h2'] at rb r6 ⊢
  have bf := fun {M : pm_M} {s : Nat} (hs : s ≤ 60) => c_X_bitsFor (d := d + 11) (mc := 0) (ms := 0) (M := M) (s := s) hs
  have em : max ((s2 : Int) - 1) 0 + 1 = ((s2 - 1 + 1 : Nat) : Int) := by omega
  show Wp (d + 12) 140 0 [(2, ((1 : Nat) : Int)), (0, w)] [] M mc ms _
  refine g_iload_n lk_140_0 rfl ?_
  refine g_tsw lk_140_1 (by first | assumption | (unfold pm_inI; omega)) (And.intro (fun h1 => ?_) (fun h1 => (And.intro (fun h2 => ?_) (fun h2 => (And.intro (fun h3 => ?_) (fun h3 => ?_))))))
  · replace h1 : w = 0 := h1
    show Wp _ 140 28 [(2, ((1 : Nat) : Int)), (0, w)] [] M _ _ _
    refine g_aload_n lk_140_28 rfl ?_
    refine g_virtual (p := 1) (Qc := _) lk_140_29 rfl (Nat.le_of_ble_eq_true rfl) rfl rfl (lay0.on (by decide) rfl) (Nat.le_of_ble_eq_true rfl) (Nat.le_of_ble_eq_true rfl) (Nat.zero_le _) (Nat.zero_le _) (ac) ?_
    rintro _ K1 ⟨rfl, l60, lay1, f1⟩
    show Wp _ 140 32 [(2, ((1 : Nat) : Int)), (0, w)] [(0, (s0 : Int))] K1 _ _ _
    refine g_static (Qc := _) lk_140_32 (by decide) rfl (Nat.le_of_ble_eq_true rfl) rfl rfl (Nat.le_of_ble_eq_true rfl) (Nat.le_of_ble_eq_true rfl) (Nat.zero_le _) (Nat.zero_le _) (bf l60) ?_
    rintro _ N5 ⟨rfl, hN5⟩
    rw [hN5]
    show Wp _ 140 35 [(2, ((1 : Nat) : Int)), (0, w)] [(0, (bfr s0 10 0 : Int))] K1 _ _ _
    refine g_ireturn lk_140_35 (fun h => absurd h (by decide)) ?_
    exact ⟨by rw [if_pos (by omega)], lay1, f1.mono (fun a q => List.mem_cons_of_mem _ q)⟩
  · replace h2 : w = 1 := h2
    show Wp _ 140 36 [(2, ((1 : Nat) : Int)), (0, w)] [] M _ _ _
    refine g_aload_n lk_140_36 rfl ?_
    refine g_virtual (p := 1) (Qc := _) lk_140_37 rfl (Nat.le_of_ble_eq_true rfl) rfl rfl (lay0.on (by decide) rfl) (Nat.le_of_ble_eq_true rfl) (Nat.le_of_ble_eq_true rfl) (Nat.zero_le _) (Nat.zero_le _) (af) ?_
    rintro _ K1 ⟨rfl, l60, lay1, f1⟩
    show Wp _ 140 40 [(2, ((1 : Nat) : Int)), (0, w)] [(0, (s1 : Int))] K1 _ _ _
    refine g_static (Qc := _) lk_140_40 (by decide) rfl (Nat.le_of_ble_eq_true rfl) rfl rfl (Nat.le_of_ble_eq_true rfl) (Nat.le_of_ble_eq_true rfl) (Nat.zero_le _) (Nat.zero_le _) (bf l60) ?_
    rintro _ N6 ⟨rfl, hN6⟩
    rw [hN6]
    show Wp _ 140 43 [(2, ((1 : Nat) : Int)), (0, w)] [(0, (bfr s1 10 0 : Int))] K1 _ _ _
    refine g_ireturn lk_140_43 (fun h => absurd h (by decide)) ?_
    exact ⟨by rw [if_neg (by omega), if_pos (by omega)], lay1, f1.mono (fun a q => List.mem_cons_of_mem _ q)⟩
  · replace h3 : w = 2 := h3
    show Wp _ 140 44 [(2, ((1 : Nat) : Int)), (0, w)] [] M _ _ _
    refine g_aload_n lk_140_44 rfl ?_
    refine g_getfield lk_140_45 rfl (lay0.on (by decide) rfl) (v := ((39 : Nat) : Int)) (lay0.rf rfl) ?_
    refine g_iconst lk_140_48 ?_
    refine g_virtual (p := 39) (Qc := _) lk_140_49 rfl (Nat.le_of_ble_eq_true rfl) rfl rfl (lay0.on (by decide) rfl) (Nat.le_of_ble_eq_true rfl) (Nat.le_of_ble_eq_true rfl) (Nat.zero_le _) (Nat.zero_le _) (rb) ?_
    rintro _ K1 ⟨rfl, lay1, f1⟩
    show Wp _ 140 52 [(2, ((1 : Nat) : Int)), (0, w)] [(0, (s2 : Int))] K1 _ _ _
    refine g_iconst lk_140_52 ?_
    refine g_isub lk_140_53 ?_
    refine g_iconst lk_140_54 ?_
    refine g_mmax lk_140_55 (by first | assumption | (unfold pm_inI; omega)) (by first | assumption | (unfold pm_inI; omega)) (Nat.le_of_ble_eq_true rfl) ?_
    refine g_iconst lk_140_58 ?_
    refine g_iadd lk_140_59 ?_
    refine g_top (z := ((max ((s2 : Int) - 1) 0) + 1)) (z' := ((s2 - 1 + 1 : Nat) : Int)) (em) ?_
    refine g_static (Qc := _) lk_140_60 (by decide) rfl (Nat.le_of_ble_eq_true rfl) rfl rfl (Nat.le_of_ble_eq_true rfl) (Nat.le_of_ble_eq_true rfl) (Nat.zero_le _) (Nat.zero_le _) (bf (by omega)) ?_
    rintro _ N7 ⟨rfl, hN7⟩
    rw [hN7]
    show Wp _ 140 63 [(2, ((1 : Nat) : Int)), (0, w)] [(0, (bfr (s2 - 1 + 1) 10 0 : Int))] K1 _ _ _
    refine g_ireturn lk_140_63 (fun h => absurd h (by decide)) ?_
    exact ⟨by rw [if_neg (by omega), if_neg (by omega), if_pos (by omega)], lay1, f1.mono (fun a q => by simp at q; rw [q]; exact List.mem_cons_self)⟩
  · show Wp _ 140 64 [(2, ((1 : Nat) : Int)), (0, w)] [] M _ _ _
    replace h1 : ¬ w = 0 := h1
    replace h2 : ¬ w = 1 := h2
    replace h3 : ¬ w = 2 := h3
    refine g_iconst lk_140_64 ?_
    refine g_ireturn lk_140_65 (fun h => absurd h (by decide)) ?_
    exact ⟨by rw [if_neg (by omega), if_neg (by omega), if_neg (by omega)], lay0, Fr.refl _ _⟩
set_option maxHeartbeats 8000000 in
theorem c_Mo_bound {d mc ms : Nat} {M : pm_M} (lay0 : Lay M) {T : Tab} (hT : TabOK T) (hX : TabX T) (hM0 : MoAt M T) {w : Int} (hw : pm_inI w) :
    pm_E (d + 5) 246 [(2, ((116 : Nat) : Int)), (0, w)] M mc ms (fun ρ M' => ρ = some (0, sBound T w) ∧ Lay M' ∧ MF [134, 135, 136, 137, 138, 139, 140] [0, 38, 43] M M') := by
  have th := MF.th (S := [134, 135, 136, 137, 138, 139, 140]) (K := [0, 38, 43]) (by decide) M
  have ii := fun (M : pm_M) => c_Mo_in (d := d + 4) (mc := 0) (ms := 0) (M := M) (v := w) (l := 0) (h := 2) hw (by unfold pm_inI; omega) (by unfold pm_inI; omega)
  show Wp (d + 5) 246 0 [(2, ((116 : Nat) : Int)), (0, w), (9, 0), (9, 0)] [] M mc ms _
  by_cases e0 : 0 ≤ w ∧ w ≤ 2
  rotate_left
  · rw [if_neg e0] at ii
    have es : sBound T w = -1 := by unfold sBound; rw [if_neg (by omega), if_neg (by omega), if_neg (by omega)]
    rw [es]
    refine g_aload_n lk_246_0 rfl ?_
    refine g_iconst lk_246_1 ?_
    have lay1 : Lay (Mu [(116, pm_upd (pm_ct M 116) 0 0)] M) := lay0.muF (l := []) (a := 116) (k := 0) (z := 0) rfl rfl
    refine m_putfield (u := []) (u' := [(116, pm_upd (pm_ct M 116) 0 0)]) (M := M) lk_246_2 rfl (lay0.on (by decide) rfl) (fun h => absurd h (by decide)) rfl ?_
    refine g_iload_n lk_246_5 rfl ?_
    refine g_iconst lk_246_6 ?_
    refine g_iconst lk_246_7 ?_
    refine g_static (Qc := _) lk_246_8 (by decide) rfl (Nat.le_of_ble_eq_true rfl) rfl rfl (Nat.le_of_ble_eq_true rfl) (Nat.le_of_ble_eq_true rfl) (Nat.zero_le _) (Nat.zero_le _) (ii _) ?_
    rintro _ N2 ⟨rfl, hN2⟩
    rw [hN2]
    show Wp _ 246 11 [(2, ((116 : Nat) : Int)), (0, w), (9, 0), (9, 0)] [(0, 0)] (Mu [(116, pm_upd (pm_ct M 116) 0 0)] M) _ _ _
    refine g_if (t := 16) lk_246_11 rfl (by first | assumption | (unfold pm_inI; omega)) (fun h => absurd h (show ¬ (¬ (0 : Int) = (0 : Int)) by omega)) (fun _ => ?_)
    refine g_iconst lk_246_14 ?_
    refine g_ireturn lk_246_15 (fun h => absurd h (by decide)) ?_
    exact ⟨rfl, lay1, th⟩
  rw [if_pos e0] at ii
  have mo' : ∀ {N : pm_M}, MF [134, 135, 136, 137, 138, 139, 140] [0, 38, 43] M N → MoAt N T := fun k => hM0.mf k (by decide) (by decide) (by decide) (by decide)
  obtain ⟨s, hs⟩ : ∃ s : Nat, s = if w = 0 then bCov T 10 else if w = 1 then bFoo T 10 else rkT T 0 - 1 + 1 := ⟨_, rfl⟩
  have es : sBound T w = (bfr s 10 0 : Int) := by
    unfold sBound
    rw [hs]
    by_cases q0 : w = 0
    · rw [if_pos q0, if_pos q0]
    · rw [if_neg q0, if_neg q0]
      by_cases q1 : w = 1
      · rw [if_pos q1, if_pos q1]
      · rw [if_neg q1, if_neg q1, if_pos (by omega)]
  rw [es]
  obtain ⟨Q, hQ⟩ : ∃ Q : pm_Q, Q = (fun ρ M' => ρ = some (0, (bfr s 10 0 : Int)) ∧ Lay M' ∧ MF [134, 135, 136, 137, 138, 139, 140] [0, 38, 43] M M') := ⟨_, rfl⟩
  rw [← hQ]
  have bits : ∀ (N : pm_M), s ≤ 60 → Lay N → MF [134, 135, 136, 137, 138, 139, 140] [0, 38, 43] M N → ∀ (k n : Nat), n + k = 10 → bfr s 10 0 = bfr s k n → Wp (d + 5) 246 89 [(2, ((116 : Nat) : Int)), (0, w), (0, (s : Int)), (0, (n : Int))] [] N mc ms Q := by
    intro N s60 lay mf k
    induction k with
    | zero =>
      intro n hn hb
      have n10 : n = 10 := by omega
      have e := shl1 (n := n) (by omega)
      have p10 : 2 ^ n = 1024 := by rw [n10]
      rw [p10] at e
      refine g_iconst lk_246_89 ?_
      refine g_iload_n lk_246_90 rfl ?_
      refine g_ishl lk_246_91 ?_
      refine g_top (z := (pm_shl 1 (n : Int))) (z' := ((1024 : Nat) : Int)) (e) ?_
      refine g_iload_n lk_246_92 rfl ?_
      refine g_icmp (t := 102) lk_246_93 rfl (by first | (unfold pm_inI; omega) | exact pm_and_in _ _ | exact pm_shr_in _ _ | exact pm_or_in _ _ | exact pm_xor_in _ _ | exact pm_shl_in _ _ | exact pm_cmp_in _ _ | exact pm_b8_in _ | (unfold pm_inI; split <;> omega)) (by first | (unfold pm_inI; omega) | exact pm_and_in _ _ | exact pm_shr_in _ _ | exact pm_or_in _ _ | exact pm_xor_in _ _ | exact pm_shl_in _ _ | exact pm_cmp_in _ _ | exact pm_b8_in _ | (unfold pm_inI; split <;> omega)) (fun h1 => ?_) (fun h1 => ?_)
      · replace h1 : (s : Int) ≤ ((1024 : Nat) : Int) := h1
        refine g_iload_n lk_246_102 rfl ?_
        refine g_ireturn lk_246_103 (fun h => absurd h (by decide)) ?_
        rw [hQ]
        exact ⟨by rw [hb]; rfl, lay, mf⟩
      · replace h1 : ¬ ((s : Int) ≤ ((1024 : Nat) : Int)) := h1
        omega
    | succ k ih =>
      intro n hn hb
      replace hb : bfr s 10 0 = if 2 ^ n < s then bfr s k (n + 1) else n := hb
      have e := shl1 (n := n) (by omega)
      have p11 := pw_11 (n := n) (by omega)
      obtain ⟨q, hq⟩ : ∃ q, q = 2 ^ n := ⟨_, rfl⟩
      rw [← hq] at e hb p11
      refine g_iconst lk_246_89 ?_
      refine g_iload_n lk_246_90 rfl ?_
      refine g_ishl lk_246_91 ?_
      refine g_top (z := (pm_shl 1 (n : Int))) (z' := (q : Int)) (e) ?_
      refine g_iload_n lk_246_92 rfl ?_
      refine g_icmp (t := 102) lk_246_93 rfl (by first | (unfold pm_inI; omega) | exact pm_and_in _ _ | exact pm_shr_in _ _ | exact pm_or_in _ _ | exact pm_xor_in _ _ | exact pm_shl_in _ _ | exact pm_cmp_in _ _ | exact pm_b8_in _ | (unfold pm_inI; split <;> omega)) (by first | (unfold pm_inI; omega) | exact pm_and_in _ _ | exact pm_shr_in _ _ | exact pm_or_in _ _ | exact pm_xor_in _ _ | exact pm_shl_in _ _ | exact pm_cmp_in _ _ | exact pm_b8_in _ | (unfold pm_inI; split <;> omega)) (fun h1 => ?_) (fun h1 => ?_)
      · replace h1 : (s : Int) ≤ (q : Int) := h1
        refine g_iload_n lk_246_102 rfl ?_
        refine g_ireturn lk_246_103 (fun h => absurd h (by decide)) ?_
        rw [if_neg (by omega)] at hb
        rw [hQ]
        exact ⟨by rw [hb], lay, mf⟩
      · replace h1 : ¬ ((s : Int) ≤ (q : Int)) := h1
        refine g_iinc (ls' := [(2, ((116 : Nat) : Int)), (0, w), (0, (s : Int)), (0, ((n : Int) + 1))]) lk_246_96 rfl rfl rfl ?_
        refine g_goto (t := 89) lk_246_99 rfl ?_
        rw [if_pos (by omega)] at hb
        exact ih (n + 1) (by omega) hb
  rcases (by omega : w = 0 ∨ w = 1 ∨ w = 2) with e | e | e
  · rw [e, if_pos rfl] at hs
    have loop : ∀ (k v : Nat) (N : pm_M), v + k = 10 → bCov T v ≤ 6 * v → Lay N → MF [134, 135, 136, 137, 138, 139, 140] [0, 38, 43] M N → Wp (d + 5) 246 20 [(2, ((116 : Nat) : Int)), (0, 0), (0, ((bCov T v : Nat) : Int)), (0, (v : Int))] [] N mc ms Q := by
      intro k
      induction k with
      | zero =>
        intro v N hv hb lay mf
        have ev : v = 10 := by omega
        rw [ev, ← hs] at hb
        have bb := bits N (by omega) lay mf 10 0 (by omega) rfl
        rw [e] at bb
        rw [ev, ← hs]
        refine g_iload_n lk_246_20 rfl ?_
        refine g_bipush lk_246_21 ?_
        refine g_icmp (t := 64) lk_246_23 rfl (by first | (unfold pm_inI; omega) | exact pm_and_in _ _ | exact pm_shr_in _ _ | exact pm_or_in _ _ | exact pm_xor_in _ _ | exact pm_shl_in _ _ | exact pm_cmp_in _ _ | exact pm_b8_in _ | (unfold pm_inI; split <;> omega)) (by first | (unfold pm_inI; omega) | exact pm_and_in _ _ | exact pm_shr_in _ _ | exact pm_or_in _ _ | exact pm_xor_in _ _ | exact pm_shl_in _ _ | exact pm_cmp_in _ _ | exact pm_b8_in _ | (unfold pm_inI; split <;> omega)) (fun h1 => ?_) (fun h1 => ?_)
        · replace h1 : 10 ≤ ((10 : Nat) : Int) := h1
          refine g_iload_n lk_246_64 rfl ?_
          refine g_iconst lk_246_65 ?_
          refine g_icmp (t := 85) lk_246_66 rfl (by first | (unfold pm_inI; omega) | exact pm_and_in _ _ | exact pm_shr_in _ _ | exact pm_or_in _ _ | exact pm_xor_in _ _ | exact pm_shl_in _ _ | exact pm_cmp_in _ _ | exact pm_b8_in _ | (unfold pm_inI; split <;> omega)) (by first | (unfold pm_inI; omega) | exact pm_and_in _ _ | exact pm_shr_in _ _ | exact pm_or_in _ _ | exact pm_xor_in _ _ | exact pm_shl_in _ _ | exact pm_cmp_in _ _ | exact pm_b8_in _ | (unfold pm_inI; split <;> omega)) (fun _ => ?_) (fun h => absurd (show ¬ (0 : Int) = (2 : Int) by omega) h)
          refine g_iload_n lk_246_85 rfl ?_
          refine g_istore_n (ls' := [(2, ((116 : Nat) : Int)), (0, 0), (0, (s : Int)), (0, ((10 : Nat) : Int))]) lk_246_86 rfl rfl ?_
          refine g_iconst lk_246_87 ?_
          refine g_istore_n (ls' := [(2, ((116 : Nat) : Int)), (0, 0), (0, (s : Int)), (0, 0)]) lk_246_88 rfl rfl ?_
          exact bb
        · replace h1 : ¬ (10 ≤ ((10 : Nat) : Int)) := h1
          omega
      | succ k ih =>
        intro v N hv hb lay mf
        have co := c_Mo_coverOf (d := d) (mc := 0) (ms := 0) lay hT hX (mo' mf) (v := v) (by omega)
        have bs : bCov T (v + 1) = bCov T v + covN T v := rfl
        obtain ⟨a, ha⟩ : ∃ a, a = bCov T v := ⟨_, rfl⟩
        rw [← ha] at hb bs ⊢
        have go := fun (n : Nat) (hn : IsCov T v n) (K : pm_M) => show Lay K → MF [134, 135, 136, 137, 138, 139, 140] [0, 38, 43] M K → Wp (d + 5) 246 20 [(2, ((116 : Nat) : Int)), (0, 0), (0, (a : Int) + (n : Int)), (0, (v : Int) + 1)] [] K mc ms Q from fun l f => by
          have e1 := covN_eq hn
          have e2 := cov_6 hT hn
          have e3 : (a : Int) + (n : Int) = ((bCov T (v + 1) : Nat) : Int) := by rw [bs, ← e1]; omega
          rw [e3]
          exact ih (v + 1) K (by omega) (by rw [bs, ← e1]; omega) l f
        clear ih
        refine g_iload_n lk_246_20 rfl ?_
        refine g_bipush lk_246_21 ?_
        refine g_icmp (t := 64) lk_246_23 rfl (by first | (unfold pm_inI; omega) | exact pm_and_in _ _ | exact pm_shr_in _ _ | exact pm_or_in _ _ | exact pm_xor_in _ _ | exact pm_shl_in _ _ | exact pm_cmp_in _ _ | exact pm_b8_in _ | (unfold pm_inI; split <;> omega)) (by first | (unfold pm_inI; omega) | exact pm_and_in _ _ | exact pm_shr_in _ _ | exact pm_or_in _ _ | exact pm_xor_in _ _ | exact pm_shl_in _ _ | exact pm_cmp_in _ _ | exact pm_b8_in _ | (unfold pm_inI; split <;> omega)) (fun h1 => ?_) (fun h1 => ?_)
        · replace h1 : 10 ≤ (v : Int) := h1
          omega
        · replace h1 : ¬ (10 ≤ (v : Int)) := h1
          refine g_iload_n lk_246_26 rfl ?_
          refine g_iconst lk_246_27 ?_
          refine g_icmp (t := 64) lk_246_28 rfl (by first | (unfold pm_inI; omega) | exact pm_and_in _ _ | exact pm_shr_in _ _ | exact pm_or_in _ _ | exact pm_xor_in _ _ | exact pm_shl_in _ _ | exact pm_cmp_in _ _ | exact pm_b8_in _ | (unfold pm_inI; split <;> omega)) (by first | (unfold pm_inI; omega) | exact pm_and_in _ _ | exact pm_shr_in _ _ | exact pm_or_in _ _ | exact pm_xor_in _ _ | exact pm_shl_in _ _ | exact pm_cmp_in _ _ | exact pm_b8_in _ | (unfold pm_inI; split <;> omega)) (fun h => absurd h (show ¬ ((2 : Int) ≤ (0 : Int)) by omega)) (fun _ => ?_)
          refine g_iload_n lk_246_31 rfl ?_
          refine g_if (t := 46) lk_246_32 rfl (by first | (unfold pm_inI; omega) | exact pm_and_in _ _ | exact pm_shr_in _ _ | exact pm_or_in _ _ | exact pm_xor_in _ _ | exact pm_shl_in _ _ | exact pm_cmp_in _ _ | exact pm_b8_in _ | (unfold pm_inI; split <;> omega)) (fun h => absurd h (show ¬ (¬ (0 : Int) = (0 : Int)) by omega)) (fun _ => ?_)
          refine g_iload_n lk_246_35 rfl ?_
          refine g_aload_n lk_246_36 rfl ?_
          refine g_iload_n lk_246_37 rfl ?_
          refine g_virtual (p := 116) (Qc := _) lk_246_38 rfl (Nat.le_of_ble_eq_true rfl) rfl rfl (lay.on (by decide) rfl) (Nat.le_of_ble_eq_true rfl) (Nat.le_of_ble_eq_true rfl) (Nat.zero_le _) (Nat.zero_le _) (co) ?_
          rintro ρ K1 ⟨⟨n, hn, rfl⟩, lay1, f1⟩
          show Wp _ 246 41 [(2, ((116 : Nat) : Int)), (0, 0), (0, (a : Int)), (0, (v : Int))] [(0, (n : Int)), (0, (a : Int))] K1 _ _ _
          refine g_iadd lk_246_41 ?_
          refine g_istore_n (ls' := [(2, ((116 : Nat) : Int)), (0, 0), (0, ((a : Int) + (n : Int))), (0, (v : Int))]) lk_246_42 rfl rfl ?_
          refine g_goto (t := 58) lk_246_43 rfl ?_
          refine g_iinc (ls' := [(2, ((116 : Nat) : Int)), (0, 0), (0, ((a : Int) + (n : Int))), (0, ((v : Int) + 1))]) lk_246_58 rfl rfl rfl ?_
          refine g_goto (t := 20) lk_246_61 rfl ?_
          exact go n hn K1 lay1 (mf.trans (f1.mono (fun a q => by simp at q ⊢; omega) (fun a q => by simp at q ⊢; omega)))
    rw [e] at ii ⊢
    refine g_aload_n lk_246_0 rfl ?_
    refine g_iconst lk_246_1 ?_
    have lay1 : Lay (Mu [(116, pm_upd (pm_ct M 116) 0 0)] M) := lay0.muF (l := []) (a := 116) (k := 0) (z := 0) rfl rfl
    refine m_putfield (u := []) (u' := [(116, pm_upd (pm_ct M 116) 0 0)]) (M := M) lk_246_2 rfl (lay0.on (by decide) rfl) (fun h => absurd h (by decide)) rfl ?_
    refine g_iload_n lk_246_5 rfl ?_
    refine g_iconst lk_246_6 ?_
    refine g_iconst lk_246_7 ?_
    refine g_static (Qc := _) lk_246_8 (by decide) rfl (Nat.le_of_ble_eq_true rfl) rfl rfl (Nat.le_of_ble_eq_true rfl) (Nat.le_of_ble_eq_true rfl) (Nat.zero_le _) (Nat.zero_le _) (ii _) ?_
    rintro _ N2 ⟨rfl, hN2⟩
    rw [hN2]
    show Wp _ 246 11 [(2, ((116 : Nat) : Int)), (0, 0), (9, 0), (9, 0)] [(0, 1)] (Mu [(116, pm_upd (pm_ct M 116) 0 0)] M) _ _ _
    refine g_if (t := 16) lk_246_11 rfl (by first | (unfold pm_inI; omega) | exact pm_and_in _ _ | exact pm_shr_in _ _ | exact pm_or_in _ _ | exact pm_xor_in _ _ | exact pm_shl_in _ _ | exact pm_cmp_in _ _ | exact pm_b8_in _ | (unfold pm_inI; split <;> omega)) (fun _ => ?_) (fun h => absurd (show ¬ (1 : Int) = (0 : Int) by omega) h)
    refine g_iconst lk_246_16 ?_
    refine g_istore_n (ls' := [(2, ((116 : Nat) : Int)), (0, 0), (0, 0), (9, 0)]) lk_246_17 rfl rfl ?_
    refine g_iconst lk_246_18 ?_
    refine g_istore_n (ls' := [(2, ((116 : Nat) : Int)), (0, 0), (0, 0), (0, 0)]) lk_246_19 rfl rfl ?_
    exact loop 10 0 _ (by omega) (Nat.le_refl _) lay1 th
  · rw [e, if_neg (by omega), if_pos rfl] at hs
    have loop : ∀ (k v : Nat) (N : pm_M), v + k = 10 → bFoo T v ≤ 6 * v → Lay N → MF [134, 135, 136, 137, 138, 139, 140] [0, 38, 43] M N → Wp (d + 5) 246 20 [(2, ((116 : Nat) : Int)), (0, 1), (0, ((bFoo T v : Nat) : Int)), (0, (v : Int))] [] N mc ms Q := by
      intro k
      induction k with
      | zero =>
        intro v N hv hb lay mf
        have ev : v = 10 := by omega
        rw [ev, ← hs] at hb
        have bb := bits N (by omega) lay mf 10 0 (by omega) rfl
        rw [e] at bb
        rw [ev, ← hs]
        refine g_iload_n lk_246_20 rfl ?_
        refine g_bipush lk_246_21 ?_
        refine g_icmp (t := 64) lk_246_23 rfl (by first | (unfold pm_inI; omega) | exact pm_and_in _ _ | exact pm_shr_in _ _ | exact pm_or_in _ _ | exact pm_xor_in _ _ | exact pm_shl_in _ _ | exact pm_cmp_in _ _ | exact pm_b8_in _ | (unfold pm_inI; split <;> omega)) (by first | (unfold pm_inI; omega) | exact pm_and_in _ _ | exact pm_shr_in _ _ | exact pm_or_in _ _ | exact pm_xor_in _ _ | exact pm_shl_in _ _ | exact pm_cmp_in _ _ | exact pm_b8_in _ | (unfold pm_inI; split <;> omega)) (fun h1 => ?_) (fun h1 => ?_)
        · replace h1 : 10 ≤ ((10 : Nat) : Int) := h1
          refine g_iload_n lk_246_64 rfl ?_
          refine g_iconst lk_246_65 ?_
          refine g_icmp (t := 85) lk_246_66 rfl (by first | (unfold pm_inI; omega) | exact pm_and_in _ _ | exact pm_shr_in _ _ | exact pm_or_in _ _ | exact pm_xor_in _ _ | exact pm_shl_in _ _ | exact pm_cmp_in _ _ | exact pm_b8_in _ | (unfold pm_inI; split <;> omega)) (by first | (unfold pm_inI; omega) | exact pm_and_in _ _ | exact pm_shr_in _ _ | exact pm_or_in _ _ | exact pm_xor_in _ _ | exact pm_shl_in _ _ | exact pm_cmp_in _ _ | exact pm_b8_in _ | (unfold pm_inI; split <;> omega)) (fun _ => ?_) (fun h => absurd (show ¬ (1 : Int) = (2 : Int) by omega) h)
          refine g_iload_n lk_246_85 rfl ?_
          refine g_istore_n (ls' := [(2, ((116 : Nat) : Int)), (0, 1), (0, (s : Int)), (0, ((10 : Nat) : Int))]) lk_246_86 rfl rfl ?_
          refine g_iconst lk_246_87 ?_
          refine g_istore_n (ls' := [(2, ((116 : Nat) : Int)), (0, 1), (0, (s : Int)), (0, 0)]) lk_246_88 rfl rfl ?_
          exact bb
        · replace h1 : ¬ (10 ≤ ((10 : Nat) : Int)) := h1
          omega
      | succ k ih =>
        intro v N hv hb lay mf
        have lf := c_Mo_layFooling (d := d + 1) (mc := 0) (ms := 0) lay hT (mo' mf) (v := v) (by omega)
        have bs : bFoo T (v + 1) = bFoo T v + (bK T v).length := rfl
        obtain ⟨a, ha⟩ : ∃ a, a = bFoo T v := ⟨_, rfl⟩
        obtain ⟨n, hn⟩ : ∃ n, n = (bK T v).length := ⟨_, rfl⟩
        rw [← ha] at hb bs ⊢
        rw [← hn] at bs
        have go := fun (n6 : n ≤ 6) (K : pm_M) => show Lay K → MF [134, 135, 136, 137, 138, 139, 140] [0, 38, 43] M K → Wp (d + 5) 246 20 [(2, ((116 : Nat) : Int)), (0, 1), (0, (a : Int) + (n : Int)), (0, (v : Int) + 1)] [] K mc ms Q from fun l f => by
          have e3 : (a : Int) + (n : Int) = ((bFoo T (v + 1) : Nat) : Int) := by rw [bs]; omega
          rw [e3]
          exact ih (v + 1) K (by omega) (by rw [bs]; omega) l f
        clear ih
        refine g_iload_n lk_246_20 rfl ?_
        refine g_bipush lk_246_21 ?_
        refine g_icmp (t := 64) lk_246_23 rfl (by first | (unfold pm_inI; omega) | exact pm_and_in _ _ | exact pm_shr_in _ _ | exact pm_or_in _ _ | exact pm_xor_in _ _ | exact pm_shl_in _ _ | exact pm_cmp_in _ _ | exact pm_b8_in _ | (unfold pm_inI; split <;> omega)) (by first | (unfold pm_inI; omega) | exact pm_and_in _ _ | exact pm_shr_in _ _ | exact pm_or_in _ _ | exact pm_xor_in _ _ | exact pm_shl_in _ _ | exact pm_cmp_in _ _ | exact pm_b8_in _ | (unfold pm_inI; split <;> omega)) (fun h1 => ?_) (fun h1 => ?_)
        · replace h1 : 10 ≤ (v : Int) := h1
          omega
        · replace h1 : ¬ (10 ≤ (v : Int)) := h1
          refine g_iload_n lk_246_26 rfl ?_
          refine g_iconst lk_246_27 ?_
          refine g_icmp (t := 64) lk_246_28 rfl (by first | (unfold pm_inI; omega) | exact pm_and_in _ _ | exact pm_shr_in _ _ | exact pm_or_in _ _ | exact pm_xor_in _ _ | exact pm_shl_in _ _ | exact pm_cmp_in _ _ | exact pm_b8_in _ | (unfold pm_inI; split <;> omega)) (by first | (unfold pm_inI; omega) | exact pm_and_in _ _ | exact pm_shr_in _ _ | exact pm_or_in _ _ | exact pm_xor_in _ _ | exact pm_shl_in _ _ | exact pm_cmp_in _ _ | exact pm_b8_in _ | (unfold pm_inI; split <;> omega)) (fun h => absurd h (show ¬ ((2 : Int) ≤ (1 : Int)) by omega)) (fun _ => ?_)
          refine g_iload_n lk_246_31 rfl ?_
          refine g_if (t := 46) lk_246_32 rfl (by first | (unfold pm_inI; omega) | exact pm_and_in _ _ | exact pm_shr_in _ _ | exact pm_or_in _ _ | exact pm_xor_in _ _ | exact pm_shl_in _ _ | exact pm_cmp_in _ _ | exact pm_b8_in _ | (unfold pm_inI; split <;> omega)) (fun _ => ?_) (fun h => absurd (show ¬ (1 : Int) = (0 : Int) by omega) h)
          refine g_aload_n lk_246_46 rfl ?_
          refine g_iload_n lk_246_47 rfl ?_
          refine g_virtual (p := 116) (Qc := _) lk_246_48 rfl (Nat.le_of_ble_eq_true rfl) rfl rfl (lay.on (by decide) rfl) (Nat.le_of_ble_eq_true rfl) (Nat.le_of_ble_eq_true rfl) (Nat.zero_le _) (Nat.zero_le _) (lf) ?_
          rintro _ K1 ⟨rfl, lay1, f1, lk1⟩
          obtain ⟨⟨Z, hZ, Z6, Z36, x43, xn⟩, -⟩ := lk1
          have eX := EN_best hT hZ
          rw [eX, ← hn] at x43 Z6
          show Wp _ 246 51 [(2, ((116 : Nat) : Int)), (0, 1), (0, (a : Int)), (0, (v : Int))] [] K1 _ _ _
          refine g_iload_n lk_246_51 rfl ?_
          refine g_aload_n lk_246_52 rfl ?_
          refine m_getfield (u := []) (M := K1) lk_246_53 rfl (lay1.on (by decide) rfl) (v := (n : Int)) x43 ?_
          refine g_iadd lk_246_56 ?_
          refine g_istore_n (ls' := [(2, ((116 : Nat) : Int)), (0, 1), (0, ((a : Int) + (n : Int))), (0, (v : Int))]) lk_246_57 rfl rfl ?_
          refine g_iinc (ls' := [(2, ((116 : Nat) : Int)), (0, 1), (0, ((a : Int) + (n : Int))), (0, ((v : Int) + 1))]) lk_246_58 rfl rfl rfl ?_
          refine g_goto (t := 20) lk_246_61 rfl ?_
          exact go Z6 K1 lay1 (mf.trans (f1.mono (fun a q => by simp at q ⊢; omega) (fun a q => by simp at q ⊢; omega)))
    rw [e] at ii ⊢
    refine g_aload_n lk_246_0 rfl ?_
    refine g_iconst lk_246_1 ?_
    have lay1 : Lay (Mu [(116, pm_upd (pm_ct M 116) 0 0)] M) := lay0.muF (l := []) (a := 116) (k := 0) (z := 0) rfl rfl
    refine m_putfield (u := []) (u' := [(116, pm_upd (pm_ct M 116) 0 0)]) (M := M) lk_246_2 rfl (lay0.on (by decide) rfl) (fun h => absurd h (by decide)) rfl ?_
    refine g_iload_n lk_246_5 rfl ?_
    refine g_iconst lk_246_6 ?_
    refine g_iconst lk_246_7 ?_
    refine g_static (Qc := _) lk_246_8 (by decide) rfl (Nat.le_of_ble_eq_true rfl) rfl rfl (Nat.le_of_ble_eq_true rfl) (Nat.le_of_ble_eq_true rfl) (Nat.zero_le _) (Nat.zero_le _) (ii _) ?_
    rintro _ N2 ⟨rfl, hN2⟩
    rw [hN2]
    show Wp _ 246 11 [(2, ((116 : Nat) : Int)), (0, 1), (9, 0), (9, 0)] [(0, 1)] (Mu [(116, pm_upd (pm_ct M 116) 0 0)] M) _ _ _
    refine g_if (t := 16) lk_246_11 rfl (by first | (unfold pm_inI; omega) | exact pm_and_in _ _ | exact pm_shr_in _ _ | exact pm_or_in _ _ | exact pm_xor_in _ _ | exact pm_shl_in _ _ | exact pm_cmp_in _ _ | exact pm_b8_in _ | (unfold pm_inI; split <;> omega)) (fun _ => ?_) (fun h => absurd (show ¬ (1 : Int) = (0 : Int) by omega) h)
    refine g_iconst lk_246_16 ?_
    refine g_istore_n (ls' := [(2, ((116 : Nat) : Int)), (0, 1), (0, 0), (9, 0)]) lk_246_17 rfl rfl ?_
    refine g_iconst lk_246_18 ?_
    refine g_istore_n (ls' := [(2, ((116 : Nat) : Int)), (0, 1), (0, 0), (0, 0)]) lk_246_19 rfl rfl ?_
    exact loop 10 0 _ (by omega) (Nat.le_refl _) lay1 th
  · rw [e, if_neg (by omega), if_neg (by omega)] at hs
    have r6 := rk_6 hT 0
    have rb := fun l => c_Mo_rankBy (d := d + 2) (mc := 0) (ms := 0) (M := Mu [(116, pm_upd (pm_ct M 116) 0 0)] M) l hT (mo' th) (p := 0) (by omega) (Or.inl rfl) (fun h => by omega)
    obtain ⟨r0, hr0⟩ : ∃ r, r = rkT T 0 := ⟨_, rfl⟩
    rw [← hr0] at rb hs r6
    have em : max ((r0 : Int) - 1) 0 + 1 = (s : Int) := by omega
    have bb := fun N l m => bits N (by omega) l m 10 0 (by omega) rfl
    rw [e] at ii bb ⊢
    refine g_aload_n lk_246_0 rfl ?_
    refine g_iconst lk_246_1 ?_
    have lay1 : Lay (Mu [(116, pm_upd (pm_ct M 116) 0 0)] M) := lay0.muF (l := []) (a := 116) (k := 0) (z := 0) rfl rfl
    refine m_putfield (u := []) (u' := [(116, pm_upd (pm_ct M 116) 0 0)]) (M := M) lk_246_2 rfl (lay0.on (by decide) rfl) (fun h => absurd h (by decide)) rfl ?_
    refine g_iload_n lk_246_5 rfl ?_
    refine g_iconst lk_246_6 ?_
    refine g_iconst lk_246_7 ?_
    refine g_static (Qc := _) lk_246_8 (by decide) rfl (Nat.le_of_ble_eq_true rfl) rfl rfl (Nat.le_of_ble_eq_true rfl) (Nat.le_of_ble_eq_true rfl) (Nat.zero_le _) (Nat.zero_le _) (ii _) ?_
    rintro _ N2 ⟨rfl, hN2⟩
    rw [hN2]
    show Wp _ 246 11 [(2, ((116 : Nat) : Int)), (0, 2), (9, 0), (9, 0)] [(0, 1)] (Mu [(116, pm_upd (pm_ct M 116) 0 0)] M) _ _ _
    refine g_if (t := 16) lk_246_11 rfl (by first | (unfold pm_inI; omega) | exact pm_and_in _ _ | exact pm_shr_in _ _ | exact pm_or_in _ _ | exact pm_xor_in _ _ | exact pm_shl_in _ _ | exact pm_cmp_in _ _ | exact pm_b8_in _ | (unfold pm_inI; split <;> omega)) (fun _ => ?_) (fun h => absurd (show ¬ (1 : Int) = (0 : Int) by omega) h)
    refine g_iconst lk_246_16 ?_
    refine g_istore_n (ls' := [(2, ((116 : Nat) : Int)), (0, 2), (0, 0), (9, 0)]) lk_246_17 rfl rfl ?_
    refine g_iconst lk_246_18 ?_
    refine g_istore_n (ls' := [(2, ((116 : Nat) : Int)), (0, 2), (0, 0), (0, 0)]) lk_246_19 rfl rfl ?_
    refine g_iload_n lk_246_20 rfl ?_
    refine g_bipush lk_246_21 ?_
    refine g_icmp (t := 64) lk_246_23 rfl (by first | (unfold pm_inI; omega) | exact pm_and_in _ _ | exact pm_shr_in _ _ | exact pm_or_in _ _ | exact pm_xor_in _ _ | exact pm_shl_in _ _ | exact pm_cmp_in _ _ | exact pm_b8_in _ | (unfold pm_inI; split <;> omega)) (by first | (unfold pm_inI; omega) | exact pm_and_in _ _ | exact pm_shr_in _ _ | exact pm_or_in _ _ | exact pm_xor_in _ _ | exact pm_shl_in _ _ | exact pm_cmp_in _ _ | exact pm_b8_in _ | (unfold pm_inI; split <;> omega)) (fun h => absurd h (show ¬ ((10 : Int) ≤ (0 : Int)) by omega)) (fun _ => ?_)
    refine g_iload_n lk_246_26 rfl ?_
    refine g_iconst lk_246_27 ?_
    refine g_icmp (t := 64) lk_246_28 rfl (by first | (unfold pm_inI; omega) | exact pm_and_in _ _ | exact pm_shr_in _ _ | exact pm_or_in _ _ | exact pm_xor_in _ _ | exact pm_shl_in _ _ | exact pm_cmp_in _ _ | exact pm_b8_in _ | (unfold pm_inI; split <;> omega)) (by first | (unfold pm_inI; omega) | exact pm_and_in _ _ | exact pm_shr_in _ _ | exact pm_or_in _ _ | exact pm_xor_in _ _ | exact pm_shl_in _ _ | exact pm_cmp_in _ _ | exact pm_b8_in _ | (unfold pm_inI; split <;> omega)) (fun _ => ?_) (fun h => absurd (show (2 : Int) ≤ (2 : Int) by omega) h)
    refine g_iload_n lk_246_64 rfl ?_
    refine g_iconst lk_246_65 ?_
    refine g_icmp (t := 85) lk_246_66 rfl (by first | (unfold pm_inI; omega) | exact pm_and_in _ _ | exact pm_shr_in _ _ | exact pm_or_in _ _ | exact pm_xor_in _ _ | exact pm_shl_in _ _ | exact pm_cmp_in _ _ | exact pm_b8_in _ | (unfold pm_inI; split <;> omega)) (by first | (unfold pm_inI; omega) | exact pm_and_in _ _ | exact pm_shr_in _ _ | exact pm_or_in _ _ | exact pm_xor_in _ _ | exact pm_shl_in _ _ | exact pm_cmp_in _ _ | exact pm_b8_in _ | (unfold pm_inI; split <;> omega)) (fun h => absurd h (show ¬ (¬ (2 : Int) = (2 : Int)) by omega)) (fun _ => ?_)
    refine g_aload_n lk_246_69 rfl ?_
    refine g_iconst lk_246_70 ?_
    refine g_virtual (p := 116) (Qc := _) lk_246_71 rfl (Nat.le_of_ble_eq_true rfl) rfl rfl (lay1.on (by decide) rfl) (Nat.le_of_ble_eq_true rfl) (Nat.le_of_ble_eq_true rfl) (Nat.zero_le _) (Nat.zero_le _) (rb lay1) ?_
    rintro _ K1 ⟨rfl, layk, f1⟩
    show Wp _ 246 74 [(2, ((116 : Nat) : Int)), (0, 2), (0, 0), (0, 0)] [(0, (r0 : Int))] K1 _ _ _
    refine g_iconst lk_246_74 ?_
    refine g_isub lk_246_75 ?_
    refine g_iconst lk_246_76 ?_
    refine g_static (Qc := _) lk_246_77 (by decide) rfl (Nat.le_of_ble_eq_true rfl) rfl rfl (Nat.le_of_ble_eq_true rfl) (Nat.le_of_ble_eq_true rfl) (Nat.zero_le _) (Nat.zero_le _) (c_Mo_greater (by unfold pm_inI; omega) (by unfold pm_inI; omega)) ?_
    rintro _ N3 ⟨rfl, hN3⟩
    rw [hN3]
    show Wp _ 246 80 [(2, ((116 : Nat) : Int)), (0, 2), (0, 0), (0, 0)] [(0, (max ((r0 : Int) - 1) 0))] K1 _ _ _
    refine g_iconst lk_246_80 ?_
    refine g_iadd lk_246_81 ?_
    refine g_top (z := ((max ((r0 : Int) - 1) 0) + 1)) (z' := (s : Int)) (em) ?_
    refine g_goto (t := 86) lk_246_82 rfl ?_
    refine g_istore_n (ls' := [(2, ((116 : Nat) : Int)), (0, 2), (0, (s : Int)), (0, 0)]) lk_246_86 rfl rfl ?_
    refine g_iconst lk_246_87 ?_
    refine g_istore_n (ls' := [(2, ((116 : Nat) : Int)), (0, 2), (0, (s : Int)), (0, 0)]) lk_246_88 rfl rfl ?_
    exact bb K1 layk (th.trans (f1.mono (fun a q => by simp at q ⊢; omega) (fun a q => by cases q)))
