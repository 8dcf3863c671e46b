/-! ===== leaning ===== -/
def si (f : Nat → Int) : Nat → Int
  | 0 => 0
  | n + 1 => si f n + f n
theorem si_congr {f g : Nat → Int} : ∀ {n : Nat}, (∀ i, i < n → f i = g i) → si f n = si g n
  | 0, _ => rfl
  | n + 1, h => by show si f n + f n = si g n + g n; rw [si_congr (fun i hi => h i (by omega)), h n (by omega)]
theorem si_add (f g : Nat → Int) : ∀ n, si (fun i => f i + g i) n = si f n + si g n
  | 0 => rfl
  | n + 1 => by show si (fun i => f i + g i) n + (f n + g n) = si f n + f n + (si g n + g n); rw [si_add f g n]; omega
theorem si_le {f g : Nat → Int} : ∀ {n : Nat}, (∀ i, i < n → f i ≤ g i) → si f n ≤ si g n
  | 0, _ => Int.le_refl _
  | n + 1, h => by
    have h1 := si_le (n := n) (fun i hi => h i (by omega))
    have h2 := h n (by omega)
    show si f n + f n ≤ si g n + g n
    omega
theorem si_bd {f : Nat → Int} {k : Int} : ∀ {n : Nat}, (∀ i, i < n → -k ≤ f i ∧ f i ≤ k) → -(k * n) ≤ si f n ∧ si f n ≤ k * n
  | 0, _ => by simp [si]
  | n + 1, h => by
    have h1 := si_bd (n := n) (fun i hi => h i (by omega))
    have h2 := h n (by omega)
    have e : k * ((n + 1 : Nat) : Int) = k * (n : Int) + k := by rw [Int.natCast_add, Int.mul_add]; simp
    rw [e]
    show -(k * (n : Int) + k) ≤ si f n + f n ∧ si f n + f n ≤ _
    omega
def lr (T : Tab) (v rs c r : Nat) : Int := if rs.testBit r then (bt (oRow T r v (tC T)) c : Int) - (bt (uRow T r v) c : Int) else 0
def lnC (T : Tab) (v rs c : Nat) : Int := si (lr T v rs c) (tR T)
theorem bt_1 (s k : Nat) : bt s k ≤ 1 := by unfold bt; split <;> omega
theorem lr_bd (T : Tab) (v rs c r : Nat) : -1 ≤ lr T v rs c r ∧ lr T v rs c r ≤ 1 := by
  have h1 := bt_1 (oRow T r v (tC T)) c
  have h2 := bt_1 (uRow T r v) c
  unfold lr
  split <;> omega
theorem lnC_bd {T : Tab} (hT : TabOK T) (v rs c : Nat) : -6 ≤ lnC T v rs c ∧ lnC T v rs c ≤ 6 := by
  have h := si_bd (n := tR T) (fun i _ => lr_bd T v rs c i)
  have := hT.1
  unfold lnC
  omega
set_option maxHeartbeats 4000000 in
theorem c_Patches_leanOf {d mc ms : Nat} {M : pm_M} (lay : Lay M) {T : Tab} (hT : TabOK T) (hM : TbAt M 24 T) {v rs c : Nat} (hP : PaAt M T v) (hrs : rs < 64) (hc : c < 6) :
    pm_E (d + 1) 54 [(2, ((28 : Nat) : Int)), (0, (rs : Int)), (0, (c : Int))] M mc ms (fun ρ M' => ρ = some (0, lnC T v rs c) ∧ M' = M) := by
  obtain ⟨Q, hQ⟩ : ∃ Q : pm_Q, Q = (fun ρ M' => ρ = some (0, lnC T v rs c) ∧ M' = M) := ⟨_, rfl⟩
  rw [← hQ]
  have hR := hT.1
  have loop : ∀ (n r : Nat), r + n = tR T → Wp (d + 1) 54 5 [(2, ((28 : Nat) : Int)), (0, (rs : Int)), (0, (c : Int)), (0, si (lr T v rs c) r), (0, (r : Int))] [] M mc ms Q := by
    intro n
    induction n with
    | zero =>
      intro r hr
      have er : r = tR T := by omega
      refine g_iload lk_54_5 rfl ?_
      refine g_aload_n lk_54_7 rfl ?_
      refine g_getfield lk_54_8 rfl (lay.on (by decide) rfl) (v := ((24 : Nat) : Int)) (lay.rf rfl) ?_
      refine m_getfield (u := []) (M := M) lk_54_11 rfl (lay.on (by decide) rfl) (v := (tR T : Int)) hM.1 ?_
      refine g_icmp (t := 58) lk_54_14 rfl (by first | (unfold pm_inI; omega) | exact pm_and_in _ _ | exact pm_shr_in _ _ | exact pm_or_in _ _ | exact pm_xor_in _ _ | exact pm_shl_in _ _ | exact pm_cmp_in _ _ | exact pm_b8_in _ | (unfold pm_inI; split <;> omega)) (by first | (unfold pm_inI; omega) | exact pm_and_in _ _ | exact pm_shr_in _ _ | exact pm_or_in _ _ | exact pm_xor_in _ _ | exact pm_shl_in _ _ | exact pm_cmp_in _ _ | exact pm_b8_in _ | (unfold pm_inI; split <;> omega)) (fun h1 => ?_) (fun h1 => ?_)
      · replace h1 : (tR T : Int) ≤ (r : Int) := h1
        refine g_iload_n lk_54_58 rfl ?_
        refine g_ireturn lk_54_59 (fun h => absurd h (by decide)) ?_
        rw [hQ, er]
        exact ⟨rfl, rfl⟩
      · replace h1 : ¬ ((tR T : Int) ≤ (r : Int)) := h1
        omega
    | succ n ih =>
      intro r hr
      have e : si (lr T v rs c) (r + 1) = si (lr T v rs c) r + lr T v rs c r := rfl
      have k1 := oRow_64 hT r v (Nat.le_refl _)
      have k2 := uRow_64 hT r v
      have b1 : pm_and (pm_shr ((oRow T r v (tC T) : Nat) : Int) (c : Int)) 1 = (bt (oRow T r v (tC T)) c : Int) := bt_and (by omega) (by omega)
      have b2 : pm_and (pm_shr ((uRow T r v : Nat) : Int) (c : Int)) 1 = (bt (uRow T r v) c : Int) := bt_and (by omega) (by omega)
      unfold lr at e
      refine g_iload lk_54_5 rfl ?_
      refine g_aload_n lk_54_7 rfl ?_
      refine g_getfield lk_54_8 rfl (lay.on (by decide) rfl) (v := ((24 : Nat) : Int)) (lay.rf rfl) ?_
      refine m_getfield (u := []) (M := M) lk_54_11 rfl (lay.on (by decide) rfl) (v := (tR T : Int)) hM.1 ?_
      refine g_icmp (t := 58) lk_54_14 rfl (by first | (unfold pm_inI; omega) | exact pm_and_in _ _ | exact pm_shr_in _ _ | exact pm_or_in _ _ | exact pm_xor_in _ _ | exact pm_shl_in _ _ | exact pm_cmp_in _ _ | exact pm_b8_in _ | (unfold pm_inI; split <;> omega)) (by first | (unfold pm_inI; omega) | exact pm_and_in _ _ | exact pm_shr_in _ _ | exact pm_or_in _ _ | exact pm_xor_in _ _ | exact pm_shl_in _ _ | exact pm_cmp_in _ _ | exact pm_b8_in _ | (unfold pm_inI; split <;> omega)) (fun h1 => ?_) (fun h1 => ?_)
      · replace h1 : (tR T : Int) ≤ (r : Int) := h1
        refine g_iload_n lk_54_58 rfl ?_
        refine g_ireturn lk_54_59 (fun h => absurd h (by decide)) ?_
        omega
      · replace h1 : ¬ ((tR T : Int) ≤ (r : Int)) := h1
        refine g_iload lk_54_17 rfl ?_
        refine g_iload_n lk_54_19 rfl ?_
        refine g_static (Qc := _) lk_54_20 (by decide) rfl (Nat.le_of_ble_eq_true rfl) rfl rfl (Nat.le_of_ble_eq_true rfl) (Nat.le_of_ble_eq_true rfl) (Nat.zero_le _) (Nat.zero_le _) (c_Table_isIn (by omega) (by omega)) ?_
        rintro _ N2 ⟨rfl, hN2⟩
        rw [hN2]
        show Wp _ 54 23 [(2, ((28 : Nat) : Int)), (0, (rs : Int)), (0, (c : Int)), (0, (si (lr T v rs c) r)), (0, (r : Int))] [(0, (if Nat.testBit rs r then (1 : Int) else 0))] M _ _ _
        refine g_if (t := 52) lk_54_23 rfl (by first | (unfold pm_inI; omega) | exact pm_and_in _ _ | exact pm_shr_in _ _ | exact pm_or_in _ _ | exact pm_xor_in _ _ | exact pm_shl_in _ _ | exact pm_cmp_in _ _ | exact pm_b8_in _ | (unfold pm_inI; split <;> omega)) (fun h3 => ?_) (fun h3 => ?_)
        · replace h3 : (if Nat.testBit rs r then (1 : Int) else 0) = 0 := h3
          refine g_iinc (ls' := [(2, ((28 : Nat) : Int)), (0, (rs : Int)), (0, (c : Int)), (0, (si (lr T v rs c) r)), (0, ((r : Int) + 1))]) lk_54_52 rfl rfl rfl ?_
          refine g_goto (t := 5) lk_54_55 rfl ?_
          have e2 : si (lr T v rs c) r = si (lr T v rs c) (r + 1) := by show _ = si (lr T v rs c) r + lr T v rs c r; unfold lr; rw [if_neg (by simp_all)]; omega
          rw [e2]
          exact ih (r + 1) (by omega)
        · replace h3 : ¬ ((if Nat.testBit rs r then (1 : Int) else 0) = 0) := h3
          refine g_iload_n lk_54_26 rfl ?_
          refine g_aload_n lk_54_27 rfl ?_
          refine g_getfield lk_54_28 rfl (lay.on (by decide) rfl) (v := ((29 : Nat) : Int)) (lay.rf rfl) ?_
          refine g_iload lk_54_31 rfl ?_
          refine m_iaload (u := []) (M := M) lk_54_33 (lay.ay (by decide) rfl) (by omega) (j := r) (by omega) (v := ((oRow T r v (tC T) : Nat) : Int)) (hP r (by omega)).1 ?_
          refine g_iload_n lk_54_34 rfl ?_
          refine g_ishr lk_54_35 ?_
          refine g_iconst lk_54_36 ?_
          refine g_iand lk_54_37 ?_
          refine g_aload_n lk_54_38 rfl ?_
          refine g_getfield lk_54_39 rfl (lay.on (by decide) rfl) (v := ((30 : Nat) : Int)) (lay.rf rfl) ?_
          refine g_iload lk_54_42 rfl ?_
          refine m_iaload (u := []) (M := M) lk_54_44 (lay.ay (by decide) rfl) (by omega) (j := r) (by omega) (v := ((uRow T r v : Nat) : Int)) (hP r (by omega)).2 ?_
          refine g_iload_n lk_54_45 rfl ?_
          refine g_ishr lk_54_46 ?_
          refine g_iconst lk_54_47 ?_
          refine g_iand lk_54_48 ?_
          refine g_isub lk_54_49 ?_
          refine g_iadd lk_54_50 ?_
          refine g_istore_n (ls' := [(2, ((28 : Nat) : Int)), (0, (rs : Int)), (0, (c : Int)), (0, ((si (lr T v rs c) r) + ((pm_and (pm_shr ((oRow T r v (tC T) : Nat) : Int) (c : Int)) 1) - (pm_and (pm_shr ((uRow T r v : Nat) : Int) (c : Int)) 1)))), (0, (r : Int))]) lk_54_51 rfl rfl ?_
          refine g_iinc (ls' := [(2, ((28 : Nat) : Int)), (0, (rs : Int)), (0, (c : Int)), (0, ((si (lr T v rs c) r) + ((pm_and (pm_shr ((oRow T r v (tC T) : Nat) : Int) (c : Int)) 1) - (pm_and (pm_shr ((uRow T r v : Nat) : Int) (c : Int)) 1)))), (0, ((r : Int) + 1))]) lk_54_52 rfl rfl rfl ?_
          refine g_goto (t := 5) lk_54_55 rfl ?_
          have e2 : si (lr T v rs c) (r + 1) = si (lr T v rs c) r + ((bt (oRow T r v (tC T)) c : Int) - (bt (uRow T r v) c : Int)) := by show si (lr T v rs c) r + lr T v rs c r = _; rw [show lr T v rs c r = (bt (oRow T r v (tC T)) c : Int) - (bt (uRow T r v) c : Int) by unfold lr; rw [if_pos (by simp_all)]]
          rw [b1, b2, ← e2]
          exact ih (r + 1) (by omega)
  show Wp (d + 1) 54 0 [(2, ((28 : Nat) : Int)), (0, (rs : Int)), (0, (c : Int)), (9, 0), (9, 0)] [] M mc ms Q
  refine g_iconst lk_54_0 ?_
  refine g_istore_n (ls' := [(2, ((28 : Nat) : Int)), (0, (rs : Int)), (0, (c : Int)), (0, 0), (9, 0)]) lk_54_1 rfl rfl ?_
  refine g_iconst lk_54_2 ?_
  refine g_istore (ls' := [(2, ((28 : Nat) : Int)), (0, (rs : Int)), (0, (c : Int)), (0, 0), (0, 0)]) lk_54_3 rfl rfl ?_
  exact loop (tR T) 0 (by omega)
def lMore (T : Tab) (v rs n : Nat) : Int := si (fun c => max (lnC T v rs c) 0) n
def lLess (T : Tab) (v rs n : Nat) : Int := si (fun c => max (-lnC T v rs c) 0) n
def lAll (T : Tab) (v : Nat) : Nat → Int
  | 0 => 0
  | n + 1 => max (lAll T v n) (max (lMore T v (n + 1) (tC T)) (lLess T v (n + 1) (tC T)))
theorem lMore_bd {T : Tab} (hT : TabOK T) (v rs : Nat) {n : Nat} (hn : n ≤ 6) : -36 ≤ lMore T v rs n ∧ lMore T v rs n ≤ 36 := by
  have h := si_bd (n := n) (k := 6) (f := fun c => max (lnC T v rs c) 0) (fun i _ => by have := lnC_bd hT v rs i; show _ ≤ max _ _ ∧ max _ _ ≤ _; omega)
  unfold lMore; omega
theorem lLess_bd {T : Tab} (hT : TabOK T) (v rs : Nat) {n : Nat} (hn : n ≤ 6) : -36 ≤ lLess T v rs n ∧ lLess T v rs n ≤ 36 := by
  have h := si_bd (n := n) (k := 6) (f := fun c => max (-lnC T v rs c) 0) (fun i _ => by have := lnC_bd hT v rs i; show _ ≤ max _ _ ∧ max _ _ ≤ _; omega)
  unfold lLess; omega
theorem lAll_bd {T : Tab} (hT : TabOK T) (v : Nat) : ∀ n, 0 ≤ lAll T v n ∧ lAll T v n ≤ 36
  | 0 => by show (0 : Int) ≤ 0 ∧ (0 : Int) ≤ 36; omega
  | n + 1 => by
    have h := lAll_bd hT v n
    have h1 := lMore_bd hT v (n + 1) hT.2.1.2
    have h2 := lLess_bd hT v (n + 1) hT.2.1.2
    show 0 ≤ max (lAll T v n) (max _ _) ∧ max (lAll T v n) (max _ _) ≤ 36
    omega
set_option maxHeartbeats 4000000 in
theorem c_Patches_mostLeaning {d mc ms : Nat} {M : pm_M} (lay : Lay M) {T : Tab} (hT : TabOK T) (hM : TbAt M 24 T) {v : Nat} (hP : PaAt M T v) :
    pm_E (d + 2) 53 [(2, ((28 : Nat) : Int))] M mc ms (fun ρ M' => ρ = some (0, lAll T v (2 ^ tR T - 1)) ∧ M' = M) := by
  obtain ⟨Q, hQ⟩ : ∃ Q : pm_Q, Q = (fun ρ M' => ρ = some (0, lAll T v (2 ^ tR T - 1)) ∧ M' = M) := ⟨_, rfl⟩
  rw [← hQ]
  have ht : (24 : Nat) = 4 ∨ (24 : Nat) = 24 := Or.inr rfl
  have hR := tR_64 hT
  have hC := hT.2.1
  have inner : ∀ (n c i : Nat) (v6 : pm_V), c + n = tC T → i + 1 < 64 → (∀ v6' : pm_V, Wp (d + 2) 53 4 [(2, ((28 : Nat) : Int)), (0, lAll T v (i + 1)), (0, ((i + 1 + 1 : Nat) : Int)), (0, lMore T v (i + 1) (tC T)), (0, lLess T v (i + 1) (tC T)), (0, (tC T : Int)), v6'] [] M mc ms Q) →
      Wp (d + 2) 53 23 [(2, ((28 : Nat) : Int)), (0, lAll T v i), (0, ((i + 1 : Nat) : Int)), (0, lMore T v (i + 1) c), (0, lLess T v (i + 1) c), (0, (c : Int)), v6] [] M mc ms Q := by
    intro n
    induction n with
    | zero =>
      intro c i v6 hc hi k
      have ec : c = tC T := by omega
      have k1 := lAll_bd hT v i
      have k2 := lMore_bd hT v (i + 1) (n := c) (by omega)
      have k3 := lLess_bd hT v (i + 1) (n := c) (by omega)
      refine g_iload lk_53_23 rfl ?_
      refine g_aload_n lk_53_25 rfl ?_
      refine g_getfield lk_53_26 rfl (lay.on (by decide) rfl) (v := ((24 : Nat) : Int)) (lay.rf rfl) ?_
      refine m_getfield (u := []) (M := M) lk_53_29 rfl (lay.on (by decide) rfl) (v := (tC T : Int)) hM.2.1 ?_
      refine g_icmp (t := 71) lk_53_32 rfl (by first | (unfold pm_inI; omega) | exact pm_and_in _ _ | exact pm_shr_in _ _ | exact pm_or_in _ _ | exact pm_xor_in _ _ | exact pm_shl_in _ _ | exact pm_cmp_in _ _ | exact pm_b8_in _ | (unfold pm_inI; split <;> omega)) (by first | (unfold pm_inI; omega) | exact pm_and_in _ _ | exact pm_shr_in _ _ | exact pm_or_in _ _ | exact pm_xor_in _ _ | exact pm_shl_in _ _ | exact pm_cmp_in _ _ | exact pm_b8_in _ | (unfold pm_inI; split <;> omega)) (fun h1 => ?_) (fun h1 => ?_)
      · replace h1 : (tC T : Int) ≤ (c : Int) := h1
        refine g_iload_n lk_53_71 rfl ?_
        refine g_iload_n lk_53_72 rfl ?_
        refine g_iload lk_53_73 rfl ?_
        refine g_mmax lk_53_75 (by first | (unfold pm_inI; omega) | exact pm_and_in _ _ | exact pm_shr_in _ _ | exact pm_or_in _ _ | exact pm_xor_in _ _ | exact pm_shl_in _ _ | exact pm_cmp_in _ _ | exact pm_b8_in _ | (unfold pm_inI; split <;> omega)) (by first | (unfold pm_inI; omega) | exact pm_and_in _ _ | exact pm_shr_in _ _ | exact pm_or_in _ _ | exact pm_xor_in _ _ | exact pm_shl_in _ _ | exact pm_cmp_in _ _ | exact pm_b8_in _ | (unfold pm_inI; split <;> omega)) (Nat.le_of_ble_eq_true rfl) ?_
        refine g_mmax lk_53_78 (by first | (unfold pm_inI; omega) | exact pm_and_in _ _ | exact pm_shr_in _ _ | exact pm_or_in _ _ | exact pm_xor_in _ _ | exact pm_shl_in _ _ | exact pm_cmp_in _ _ | exact pm_b8_in _ | (unfold pm_inI; split <;> omega)) (by first | (unfold pm_inI; omega) | exact pm_and_in _ _ | exact pm_shr_in _ _ | exact pm_or_in _ _ | exact pm_xor_in _ _ | exact pm_shl_in _ _ | exact pm_cmp_in _ _ | exact pm_b8_in _ | (unfold pm_inI; split <;> omega)) (Nat.le_of_ble_eq_true rfl) ?_
        refine g_istore_n (ls' := [(2, ((28 : Nat) : Int)), (0, (max (lAll T v i) (max (lMore T v (i + 1) c) (lLess T v (i + 1) c)))), (0, ((i + 1 : Nat) : Int)), (0, (lMore T v (i + 1) c)), (0, (lLess T v (i + 1) c)), (0, (c : Int)), v6]) lk_53_81 rfl rfl ?_
        refine g_iinc (ls' := [(2, ((28 : Nat) : Int)), (0, (max (lAll T v i) (max (lMore T v (i + 1) c) (lLess T v (i + 1) c)))), (0, (((i + 1 : Nat) : Int) + 1)), (0, (lMore T v (i + 1) c)), (0, (lLess T v (i + 1) c)), (0, (c : Int)), v6]) lk_53_82 rfl rfl rfl ?_
        refine g_goto (t := 4) lk_53_85 rfl ?_
        rw [ec]
        exact k _
      · replace h1 : ¬ ((tC T : Int) ≤ (c : Int)) := h1
        omega
    | succ n ih =>
      intro c i v6 hc hi k
      have k1 := lnC_bd hT v (i + 1) c
      have k2 := lMore_bd hT v (i + 1) (n := c) (by omega)
      have k3 := lLess_bd hT v (i + 1) (n := c) (by omega)
      refine g_iload lk_53_23 rfl ?_
      refine g_aload_n lk_53_25 rfl ?_
      refine g_getfield lk_53_26 rfl (lay.on (by decide) rfl) (v := ((24 : Nat) : Int)) (lay.rf rfl) ?_
      refine m_getfield (u := []) (M := M) lk_53_29 rfl (lay.on (by decide) rfl) (v := (tC T : Int)) hM.2.1 ?_
      refine g_icmp (t := 71) lk_53_32 rfl (by first | (unfold pm_inI; omega) | exact pm_and_in _ _ | exact pm_shr_in _ _ | exact pm_or_in _ _ | exact pm_xor_in _ _ | exact pm_shl_in _ _ | exact pm_cmp_in _ _ | exact pm_b8_in _ | (unfold pm_inI; split <;> omega)) (by first | (unfold pm_inI; omega) | exact pm_and_in _ _ | exact pm_shr_in _ _ | exact pm_or_in _ _ | exact pm_xor_in _ _ | exact pm_shl_in _ _ | exact pm_cmp_in _ _ | exact pm_b8_in _ | (unfold pm_inI; split <;> omega)) (fun h1 => ?_) (fun h1 => ?_)
      · replace h1 : (tC T : Int) ≤ (c : Int) := h1
        refine g_iload_n lk_53_71 rfl ?_
        refine g_iload_n lk_53_72 rfl ?_
        refine g_iload lk_53_73 rfl ?_
        refine g_mmax lk_53_75 (by first | (unfold pm_inI; omega) | exact pm_and_in _ _ | exact pm_shr_in _ _ | exact pm_or_in _ _ | exact pm_xor_in _ _ | exact pm_shl_in _ _ | exact pm_cmp_in _ _ | exact pm_b8_in _ | (unfold pm_inI; split <;> omega)) (by first | (unfold pm_inI; omega) | exact pm_and_in _ _ | exact pm_shr_in _ _ | exact pm_or_in _ _ | exact pm_xor_in _ _ | exact pm_shl_in _ _ | exact pm_cmp_in _ _ | exact pm_b8_in _ | (unfold pm_inI; split <;> omega)) (Nat.le_of_ble_eq_true rfl) ?_
        refine g_mmax lk_53_78 (by first | (unfold pm_inI; omega) | exact pm_and_in _ _ | exact pm_shr_in _ _ | exact pm_or_in _ _ | exact pm_xor_in _ _ | exact pm_shl_in _ _ | exact pm_cmp_in _ _ | exact pm_b8_in _ | (unfold pm_inI; split <;> omega)) (by first | (unfold pm_inI; omega) | exact pm_and_in _ _ | exact pm_shr_in _ _ | exact pm_or_in _ _ | exact pm_xor_in _ _ | exact pm_shl_in _ _ | exact pm_cmp_in _ _ | exact pm_b8_in _ | (unfold pm_inI; split <;> omega)) (Nat.le_of_ble_eq_true rfl) ?_
        refine g_istore_n (ls' := [(2, ((28 : Nat) : Int)), (0, (max (lAll T v i) (max (lMore T v (i + 1) c) (lLess T v (i + 1) c)))), (0, ((i + 1 : Nat) : Int)), (0, (lMore T v (i + 1) c)), (0, (lLess T v (i + 1) c)), (0, (c : Int)), v6]) lk_53_81 rfl rfl ?_
        refine g_iinc (ls' := [(2, ((28 : Nat) : Int)), (0, (max (lAll T v i) (max (lMore T v (i + 1) c) (lLess T v (i + 1) c)))), (0, (((i + 1 : Nat) : Int) + 1)), (0, (lMore T v (i + 1) c)), (0, (lLess T v (i + 1) c)), (0, (c : Int)), v6]) lk_53_82 rfl rfl rfl ?_
        refine g_goto (t := 4) lk_53_85 rfl ?_
        omega
      · replace h1 : ¬ ((tC T : Int) ≤ (c : Int)) := h1
        refine g_aload_n lk_53_35 rfl ?_
        refine g_iload_n lk_53_36 rfl ?_
        refine g_iload lk_53_37 rfl ?_
        refine g_virtual (p := 28) (Qc := _) lk_53_39 rfl (Nat.le_of_ble_eq_true rfl) rfl rfl (lay.on (by decide) rfl) (Nat.le_of_ble_eq_true rfl) (Nat.le_of_ble_eq_true rfl) (Nat.zero_le _) (Nat.zero_le _) (c_Patches_leanOf lay hT hM hP (by omega) (by omega)) ?_
        rintro _ N2 ⟨rfl, hN2⟩
        rw [hN2]
        show Wp _ 53 42 [(2, ((28 : Nat) : Int)), (0, (lAll T v i)), (0, ((i + 1 : Nat) : Int)), (0, (lMore T v (i + 1) c)), (0, (lLess T v (i + 1) c)), (0, (c : Int)), v6] [(0, (lnC T v (i + 1) c))] M _ _ _
        refine g_istore (ls' := [(2, ((28 : Nat) : Int)), (0, (lAll T v i)), (0, ((i + 1 : Nat) : Int)), (0, (lMore T v (i + 1) c)), (0, (lLess T v (i + 1) c)), (0, (c : Int)), (0, (lnC T v (i + 1) c))]) lk_53_42 rfl rfl ?_
        refine g_iload_n lk_53_44 rfl ?_
        refine g_iload lk_53_45 rfl ?_
        refine g_iconst lk_53_47 ?_
        refine g_mmax lk_53_48 (by first | (unfold pm_inI; omega) | exact pm_and_in _ _ | exact pm_shr_in _ _ | exact pm_or_in _ _ | exact pm_xor_in _ _ | exact pm_shl_in _ _ | exact pm_cmp_in _ _ | exact pm_b8_in _ | (unfold pm_inI; split <;> omega)) (by first | (unfold pm_inI; omega) | exact pm_and_in _ _ | exact pm_shr_in _ _ | exact pm_or_in _ _ | exact pm_xor_in _ _ | exact pm_shl_in _ _ | exact pm_cmp_in _ _ | exact pm_b8_in _ | (unfold pm_inI; split <;> omega)) (Nat.le_of_ble_eq_true rfl) ?_
        refine g_iadd lk_53_51 ?_
        refine g_istore_n (ls' := [(2, ((28 : Nat) : Int)), (0, (lAll T v i)), (0, ((i + 1 : Nat) : Int)), (0, ((lMore T v (i + 1) c) + (max (lnC T v (i + 1) c) 0))), (0, (lLess T v (i + 1) c)), (0, (c : Int)), (0, (lnC T v (i + 1) c))]) lk_53_52 rfl rfl ?_
        refine g_iload lk_53_53 rfl ?_
        refine g_iload lk_53_55 rfl ?_
        refine g_ineg lk_53_57 ?_
        refine g_iconst lk_53_58 ?_
        refine g_mmax lk_53_59 (by first | (unfold pm_inI; omega) | exact pm_and_in _ _ | exact pm_shr_in _ _ | exact pm_or_in _ _ | exact pm_xor_in _ _ | exact pm_shl_in _ _ | exact pm_cmp_in _ _ | exact pm_b8_in _ | (unfold pm_inI; split <;> omega)) (by first | (unfold pm_inI; omega) | exact pm_and_in _ _ | exact pm_shr_in _ _ | exact pm_or_in _ _ | exact pm_xor_in _ _ | exact pm_shl_in _ _ | exact pm_cmp_in _ _ | exact pm_b8_in _ | (unfold pm_inI; split <;> omega)) (Nat.le_of_ble_eq_true rfl) ?_
        refine g_iadd lk_53_62 ?_
        refine g_istore (ls' := [(2, ((28 : Nat) : Int)), (0, (lAll T v i)), (0, ((i + 1 : Nat) : Int)), (0, ((lMore T v (i + 1) c) + (max (lnC T v (i + 1) c) 0))), (0, ((lLess T v (i + 1) c) + (max (-(lnC T v (i + 1) c)) 0))), (0, (c : Int)), (0, (lnC T v (i + 1) c))]) lk_53_63 rfl rfl ?_
        refine g_iinc (ls' := [(2, ((28 : Nat) : Int)), (0, (lAll T v i)), (0, ((i + 1 : Nat) : Int)), (0, ((lMore T v (i + 1) c) + (max (lnC T v (i + 1) c) 0))), (0, ((lLess T v (i + 1) c) + (max (-(lnC T v (i + 1) c)) 0))), (0, ((c : Int) + 1)), (0, (lnC T v (i + 1) c))]) lk_53_65 rfl rfl rfl ?_
        refine g_goto (t := 23) lk_53_68 rfl ?_
        exact ih (c + 1) i _ (by omega) hi k
  have outer : ∀ (n i : Nat) (v3 v4 v5 v6 : pm_V), i + n = 2 ^ tR T - 1 → Wp (d + 2) 53 4 [(2, ((28 : Nat) : Int)), (0, lAll T v i), (0, ((i + 1 : Nat) : Int)), v3, v4, v5, v6] [] M mc ms Q := by
    intro n
    induction n with
    | zero =>
      intro i v3 v4 v5 v6 hi
      have ei : i = 2 ^ tR T - 1 := by omega
      refine g_iload_n lk_53_4 rfl ?_
      refine g_aload_n lk_53_5 rfl ?_
      refine g_getfield lk_53_6 rfl (lay.on (by decide) rfl) (v := ((24 : Nat) : Int)) (lay.rf rfl) ?_
      refine g_virtual (p := 24) (Qc := _) lk_53_9 rfl (Nat.le_of_ble_eq_true rfl) rfl rfl (lay.on (by decide) rfl) (Nat.le_of_ble_eq_true rfl) (Nat.le_of_ble_eq_true rfl) (Nat.zero_le _) (Nat.zero_le _) (c_Table_allRows lay ht hT hM) ?_
      rintro _ N1 ⟨rfl, hN1⟩
      rw [hN1]
      show Wp _ 53 12 [(2, ((28 : Nat) : Int)), (0, (lAll T v i)), (0, ((i + 1 : Nat) : Int)), v3, v4, v5, v6] [(0, ((2 ^ tR T - 1 : Nat) : Int)), (0, ((i + 1 : Nat) : Int))] M _ _ _
      refine g_icmp (t := 88) lk_53_12 rfl (by first | (unfold pm_inI; omega) | exact pm_and_in _ _ | exact pm_shr_in _ _ | exact pm_or_in _ _ | exact pm_xor_in _ _ | exact pm_shl_in _ _ | exact pm_cmp_in _ _ | exact pm_b8_in _ | (unfold pm_inI; split <;> omega)) (by first | (unfold pm_inI; omega) | exact pm_and_in _ _ | exact pm_shr_in _ _ | exact pm_or_in _ _ | exact pm_xor_in _ _ | exact pm_shl_in _ _ | exact pm_cmp_in _ _ | exact pm_b8_in _ | (unfold pm_inI; split <;> omega)) (fun h2 => ?_) (fun h2 => ?_)
      · replace h2 : ((2 ^ tR T - 1 : Nat) : Int) < ((i + 1 : Nat) : Int) := h2
        refine g_iload_n lk_53_88 rfl ?_
        refine g_ireturn lk_53_89 (fun h => absurd h (by decide)) ?_
        rw [hQ, ei]
        exact ⟨rfl, rfl⟩
      · replace h2 : ¬ (((2 ^ tR T - 1 : Nat) : Int) < ((i + 1 : Nat) : Int)) := h2
        refine g_iconst lk_53_15 ?_
        refine g_istore_n (ls' := [(2, ((28 : Nat) : Int)), (0, (lAll T v i)), (0, ((i + 1 : Nat) : Int)), (0, 0), v4, v5, v6]) lk_53_16 rfl rfl ?_
        refine g_iconst lk_53_17 ?_
        refine g_istore (ls' := [(2, ((28 : Nat) : Int)), (0, (lAll T v i)), (0, ((i + 1 : Nat) : Int)), (0, 0), (0, 0), v5, v6]) lk_53_18 rfl rfl ?_
        refine g_iconst lk_53_20 ?_
        refine g_istore (ls' := [(2, ((28 : Nat) : Int)), (0, (lAll T v i)), (0, ((i + 1 : Nat) : Int)), (0, 0), (0, 0), (0, 0), v6]) lk_53_21 rfl rfl ?_
        omega
    | succ n ih =>
      intro i v3 v4 v5 v6 hi
      refine g_iload_n lk_53_4 rfl ?_
      refine g_aload_n lk_53_5 rfl ?_
      refine g_getfield lk_53_6 rfl (lay.on (by decide) rfl) (v := ((24 : Nat) : Int)) (lay.rf rfl) ?_
      refine g_virtual (p := 24) (Qc := _) lk_53_9 rfl (Nat.le_of_ble_eq_true rfl) rfl rfl (lay.on (by decide) rfl) (Nat.le_of_ble_eq_true rfl) (Nat.le_of_ble_eq_true rfl) (Nat.zero_le _) (Nat.zero_le _) (c_Table_allRows lay ht hT hM) ?_
      rintro _ N1 ⟨rfl, hN1⟩
      rw [hN1]
      show Wp _ 53 12 [(2, ((28 : Nat) : Int)), (0, (lAll T v i)), (0, ((i + 1 : Nat) : Int)), v3, v4, v5, v6] [(0, ((2 ^ tR T - 1 : Nat) : Int)), (0, ((i + 1 : Nat) : Int))] M _ _ _
      refine g_icmp (t := 88) lk_53_12 rfl (by first | (unfold pm_inI; omega) | exact pm_and_in _ _ | exact pm_shr_in _ _ | exact pm_or_in _ _ | exact pm_xor_in _ _ | exact pm_shl_in _ _ | exact pm_cmp_in _ _ | exact pm_b8_in _ | (unfold pm_inI; split <;> omega)) (by first | (unfold pm_inI; omega) | exact pm_and_in _ _ | exact pm_shr_in _ _ | exact pm_or_in _ _ | exact pm_xor_in _ _ | exact pm_shl_in _ _ | exact pm_cmp_in _ _ | exact pm_b8_in _ | (unfold pm_inI; split <;> omega)) (fun h2 => ?_) (fun h2 => ?_)
      · replace h2 : ((2 ^ tR T - 1 : Nat) : Int) < ((i + 1 : Nat) : Int) := h2
        refine g_iload_n lk_53_88 rfl ?_
        refine g_ireturn lk_53_89 (fun h => absurd h (by decide)) ?_
        omega
      · replace h2 : ¬ (((2 ^ tR T - 1 : Nat) : Int) < ((i + 1 : Nat) : Int)) := h2
        refine g_iconst lk_53_15 ?_
        refine g_istore_n (ls' := [(2, ((28 : Nat) : Int)), (0, (lAll T v i)), (0, ((i + 1 : Nat) : Int)), (0, 0), v4, v5, v6]) lk_53_16 rfl rfl ?_
        refine g_iconst lk_53_17 ?_
        refine g_istore (ls' := [(2, ((28 : Nat) : Int)), (0, (lAll T v i)), (0, ((i + 1 : Nat) : Int)), (0, 0), (0, 0), v5, v6]) lk_53_18 rfl rfl ?_
        refine g_iconst lk_53_20 ?_
        refine g_istore (ls' := [(2, ((28 : Nat) : Int)), (0, (lAll T v i)), (0, ((i + 1 : Nat) : Int)), (0, 0), (0, 0), (0, 0), v6]) lk_53_21 rfl rfl ?_
        exact inner (tC T) 0 i _ (by omega) (by omega) (fun v6' => ih (i + 1) _ _ _ _ (by omega))
  show Wp (d + 2) 53 0 [(2, ((28 : Nat) : Int)), (9, 0), (9, 0), (9, 0), (9, 0), (9, 0), (9, 0)] [] M mc ms Q
  refine g_iconst lk_53_0 ?_
  refine g_istore_n (ls' := [(2, ((28 : Nat) : Int)), (0, 0), (9, 0), (9, 0), (9, 0), (9, 0), (9, 0)]) lk_53_1 rfl rfl ?_
  refine g_iconst lk_53_2 ?_
  refine g_istore_n (ls' := [(2, ((28 : Nat) : Int)), (0, 0), (0, 1), (9, 0), (9, 0), (9, 0), (9, 0)]) lk_53_3 rfl rfl ?_
  exact outer (2 ^ tR T - 1) 0 _ _ _ _ (by omega)
