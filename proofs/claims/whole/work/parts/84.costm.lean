/-! ===== cost: the model ===== -/
def sCost (T : Tab) (Ts : List (List Nd)) (t r c : Int) : Int := if asked T Ts t r c then (wc T (Ts.getD t.toNat []) r.toNat c.toNat 9 0 : Int) else -1
set_option maxHeartbeats 4000000 in
theorem c_Mo_cost {d mc ms : Nat} {M : pm_M} (lay0 : Lay M) {T : Tab} (hT : TabOK T) (hM0 : MoAt M T) {Ts : List (List Nd)} (hTs0 : TsM M Ts) {t r c : Int} (ht : pm_inI t) (hr : pm_inI r) (hc : pm_inI c) :
    pm_E (d + 3) 250 [(2, ((116 : Nat) : Int)), (0, t), (0, r), (0, c)] M mc ms (fun ρ M' => ρ = some (0, sCost T Ts t r c) ∧ Lay M' ∧ MF [151, 152] [0, 59, 60, 61] M M') := by
  have th := MF.th (S := [151, 152]) (K := [0, 59, 60, 61]) (by decide) M
  have mo := hM0.mf th (by decide) (by decide) (by decide) (by decide)
  have ts := hTs0.mf th (by decide) (by decide) (by decide) (by decide) (by decide)
  have ia := fun l => c_Mo_isAsked (d := d) (mc := 0) (ms := 0) (M := Mu [(116, pm_upd (pm_ct M 116) 0 0)] M) l hT mo ts ht hr hc
  show Wp (d + 3) 250 0 [(2, ((116 : Nat) : Int)), (0, t), (0, r), (0, c)] [] M mc ms _
  by_cases hi : asked T Ts t r c
  · rw [if_pos hi] at ia
    obtain ⟨i1, i2, i3⟩ := id hi
    have l4 := hTs0.1
    have hR := hT.1
    have hC := hT.2.1
    obtain ⟨t, rfl⟩ := Int.eq_ofNat_of_zero_le i1.1
    obtain ⟨r, rfl⟩ := Int.eq_ofNat_of_zero_le i2.1
    obtain ⟨c, rfl⟩ := Int.eq_ofNat_of_zero_le i3.1
    obtain ⟨tm, dp, hD⟩ := ts.2.2 t (by omega)
    have es : sCost T Ts (t : Int) (r : Int) (c : Int) = (wc T (Ts.getD t []) r c 9 0 : Int) := by
      unfold sCost
      rw [if_pos hi]
      rfl
    rw [es]
    refine g_aload_n lk_250_0 rfl ?_
    refine g_iconst lk_250_1 ?_
    have lay1 : Lay (Mu [(116, pm_upd (pm_ct M 116) 0 0)] M) := lay0.muF (l := []) (a := 116) (k := 0) (z := 0) rfl rfl
    refine m_putfield (u := []) (u' := [(116, pm_upd (pm_ct M 116) 0 0)]) (M := M) lk_250_2 rfl (lay0.on (by decide) rfl) (fun h => absurd h (by decide)) rfl ?_
    refine g_aload_n lk_250_5 rfl ?_
    refine g_iload_n lk_250_6 rfl ?_
    refine g_iload_n lk_250_7 rfl ?_
    refine g_iload_n lk_250_8 rfl ?_
    refine g_virtual (p := 116) (Qc := _) lk_250_9 rfl (Nat.le_of_ble_eq_true rfl) rfl rfl (lay1.on (by decide) rfl) (Nat.le_of_ble_eq_true rfl) (Nat.le_of_ble_eq_true rfl) (Nat.zero_le _) (Nat.zero_le _) (ia lay1) ?_
    rintro _ N2 ⟨rfl, hN2⟩
    rw [hN2]
    show Wp _ 250 12 [(2, ((116 : Nat) : Int)), (0, (t : Int)), (0, (r : Int)), (0, (c : Int))] [(0, 1)] (Mu [(116, pm_upd (pm_ct M 116) 0 0)] M) _ _ _
    refine g_if (t := 17) lk_250_12 rfl (by first | (unfold pm_inI; omega) | exact pm_and_in _ _ | exact pm_shr_in _ _ | exact pm_or_in _ _ | exact pm_xor_in _ _ | exact pm_shl_in _ _ | exact pm_cmp_in _ _ | exact pm_b8_in _ | (unfold pm_inI; split <;> omega)) (fun _ => ?_) (fun h => absurd (show ¬ (1 : Int) = (0 : Int) by omega) h)
    refine g_aload_n lk_250_17 rfl ?_
    refine g_iload_n lk_250_18 rfl ?_
    refine g_iload_n lk_250_19 rfl ?_
    refine g_iload_n lk_250_20 rfl ?_
    refine g_virtual (p := 116) (Qc := _) lk_250_21 rfl (Nat.le_of_ble_eq_true rfl) rfl rfl (lay1.on (by decide) rfl) (Nat.le_of_ble_eq_true rfl) (Nat.le_of_ble_eq_true rfl) (Nat.zero_le _) (Nat.zero_le _) (c_Mo_goes (d := d + 1) lay1 hT mo hD (by omega) tm (by omega) (by omega)) ?_
    rintro _ K1 ⟨rfl, lay1, mf1, c59, c60, -⟩
    show Wp _ 250 24 [(2, ((116 : Nat) : Int)), (0, (t : Int)), (0, (r : Int)), (0, (c : Int))] [(0, (wy (Ts.getD t []) r c 9 0 : Int))] K1 _ _ _
    refine g_pop lk_250_24 rfl ?_
    refine g_aload_n lk_250_25 rfl ?_
    refine m_getfield (u := []) (M := K1) lk_250_26 rfl (lay1.on (by decide) rfl) (v := (wc T (Ts.getD t []) r c 9 0 : Int)) c60 ?_
    refine g_ireturn lk_250_29 (fun h => absurd h (by decide)) ?_
    exact ⟨rfl, lay1, th.trans (mf1.mono (fun a q => q) (fun a q => by simp at q ⊢; omega))⟩
  · rw [if_neg hi] at ia
    have es : sCost T Ts t r c = -1 := by unfold sCost; rw [if_neg hi]
    rw [es]
    refine g_aload_n lk_250_0 rfl ?_
    refine g_iconst lk_250_1 ?_
    have lay1 : Lay (Mu [(116, pm_upd (pm_ct M 116) 0 0)] M) := lay0.muF (l := []) (a := 116) (k := 0) (z := 0) rfl rfl
    refine m_putfield (u := []) (u' := [(116, pm_upd (pm_ct M 116) 0 0)]) (M := M) lk_250_2 rfl (lay0.on (by decide) rfl) (fun h => absurd h (by decide)) rfl ?_
    refine g_aload_n lk_250_5 rfl ?_
    refine g_iload_n lk_250_6 rfl ?_
    refine g_iload_n lk_250_7 rfl ?_
    refine g_iload_n lk_250_8 rfl ?_
    refine g_virtual (p := 116) (Qc := _) lk_250_9 rfl (Nat.le_of_ble_eq_true rfl) rfl rfl (lay1.on (by decide) rfl) (Nat.le_of_ble_eq_true rfl) (Nat.le_of_ble_eq_true rfl) (Nat.zero_le _) (Nat.zero_le _) (ia lay1) ?_
    rintro _ N2 ⟨rfl, hN2⟩
    rw [hN2]
    show Wp _ 250 12 [(2, ((116 : Nat) : Int)), (0, t), (0, r), (0, c)] [(0, 0)] (Mu [(116, pm_upd (pm_ct M 116) 0 0)] M) _ _ _
    refine g_if (t := 17) lk_250_12 rfl (by first | (unfold pm_inI; omega) | exact pm_and_in _ _ | exact pm_shr_in _ _ | exact pm_or_in _ _ | exact pm_xor_in _ _ | exact pm_shl_in _ _ | exact pm_cmp_in _ _ | exact pm_b8_in _ | (unfold pm_inI; split <;> omega)) (fun h => absurd h (show ¬ (¬ (0 : Int) = (0 : Int)) by omega)) (fun _ => ?_)
    refine g_iconst lk_250_15 ?_
    refine g_ireturn lk_250_16 (fun h => absurd h (by decide)) ?_
    exact ⟨rfl, lay1, th⟩
def sBit (T : Tab) (Ts : List (List Nd)) (t r c i : Int) : Int := if asked T Ts t r c then (if i = -1 then (wl (Ts.getD t.toNat []) r.toNat c.toNat 9 0 : Int) else if 0 ≤ i ∧ i ≤ (wl (Ts.getD t.toNat []) r.toNat c.toNat 9 0 : Int) - 1 then (if yesAt (Ts.getD t.toNat []) r.toNat c.toNat (wn (Ts.getD t.toNat []) r.toNat c.toNat i.toNat) then 1 else 0) else -1) else -1
theorem wl_9 (L : List Nd) (r c : Nat) : ∀ n k, wl L r c n k ≤ n
  | 0, _ => Nat.le_refl _
  | n + 1, k => by
    show (if (ndA L k).1 = 0 then 0 else wl L r c n (nxt L r c k) + 1) ≤ n + 1
    have := wl_9 L r c n (nxt L r c k)
    split <;> omega
set_option maxHeartbeats 4000000 in
theorem c_Mo_bit {d mc ms : Nat} {M : pm_M} (lay0 : Lay M) {T : Tab} (hT : TabOK T) (hM0 : MoAt M T) {Ts : List (List Nd)} (hTs0 : TsM M Ts) {t r c i : Int} (ht : pm_inI t) (hr : pm_inI r) (hc : pm_inI c) (hii : pm_inI i) :
    pm_E (d + 3) 252 [(2, ((116 : Nat) : Int)), (0, t), (0, r), (0, c), (0, i)] M mc ms (fun ρ M' => ρ = some (0, sBit T Ts t r c i) ∧ Lay M' ∧ MF [151, 152] [0, 59, 60, 61] M M') := by
  have th := MF.th (S := [151, 152]) (K := [0, 59, 60, 61]) (by decide) M
  have mo := hM0.mf th (by decide) (by decide) (by decide) (by decide)
  have ts := hTs0.mf th (by decide) (by decide) (by decide) (by decide) (by decide)
  have ia := fun l => c_Mo_isAsked (d := d) (mc := 0) (ms := 0) (M := Mu [(116, pm_upd (pm_ct M 116) 0 0)] M) l hT mo ts ht hr hc
  show Wp (d + 3) 252 0 [(2, ((116 : Nat) : Int)), (0, t), (0, r), (0, c), (0, i)] [] M mc ms _
  by_cases hi : asked T Ts t r c
  · rw [if_pos hi] at ia
    obtain ⟨i1, i2, i3⟩ := id hi
    have l4 := hTs0.1
    have hR := hT.1
    have hC := hT.2.1
    obtain ⟨t, rfl⟩ := Int.eq_ofNat_of_zero_le i1.1
    obtain ⟨r, rfl⟩ := Int.eq_ofNat_of_zero_le i2.1
    obtain ⟨c, rfl⟩ := Int.eq_ofNat_of_zero_le i3.1
    obtain ⟨tm, dp, hD⟩ := ts.2.2 t (by omega)
    obtain ⟨L, hL⟩ : ∃ L, L = Ts.getD t [] := ⟨_, rfl⟩
    have es : sBit T Ts (t : Int) (r : Int) (c : Int) i = if i = -1 then (wl L r c 9 0 : Int) else if 0 ≤ i ∧ i ≤ (wl L r c 9 0 : Int) - 1 then (if yesAt L r c (wn L r c i.toNat) then 1 else 0) else -1 := by
      unfold sBit
      rw [if_pos hi, hL]
      rfl
    rw [es]
    rw [← hL] at tm hD
    have gs := fun l => c_Mo_goes (d := d + 1) (mc := 0) (ms := 0) l hT mo hD (show t < 4 by omega) tm (r := r) (c := c) (by omega) (by omega)
    have w9 := wl_9 L r c 9 0
    obtain ⟨n, hn⟩ : ∃ n, n = wl L r c 9 0 := ⟨_, rfl⟩
    rw [← hn] at gs w9 ⊢
    by_cases e1 : i = -1
    · subst e1
      refine g_aload_n lk_252_0 rfl ?_
      refine g_iconst lk_252_1 ?_
      have lay1 : Lay (Mu [(116, pm_upd (pm_ct M 116) 0 0)] M) := lay0.muF (l := []) (a := 116) (k := 0) (z := 0) rfl rfl
      refine m_putfield (u := []) (u' := [(116, pm_upd (pm_ct M 116) 0 0)]) (M := M) lk_252_2 rfl (lay0.on (by decide) rfl) (fun h => absurd h (by decide)) rfl ?_
      refine g_aload_n lk_252_5 rfl ?_
      refine g_iload_n lk_252_6 rfl ?_
      refine g_iload_n lk_252_7 rfl ?_
      refine g_iload_n lk_252_8 rfl ?_
      refine g_virtual (p := 116) (Qc := _) lk_252_9 rfl (Nat.le_of_ble_eq_true rfl) rfl rfl (lay1.on (by decide) rfl) (Nat.le_of_ble_eq_true rfl) (Nat.le_of_ble_eq_true rfl) (Nat.zero_le _) (Nat.zero_le _) (ia lay1) ?_
      rintro _ N2 ⟨rfl, hN2⟩
      rw [hN2]
      show Wp _ 252 12 [(2, ((116 : Nat) : Int)), (0, (t : Int)), (0, (r : Int)), (0, (c : Int)), (0, (-1))] [(0, 1)] (Mu [(116, pm_upd (pm_ct M 116) 0 0)] M) _ _ _
      refine g_if (t := 17) lk_252_12 rfl (by first | (unfold pm_inI; omega) | exact pm_and_in _ _ | exact pm_shr_in _ _ | exact pm_or_in _ _ | exact pm_xor_in _ _ | exact pm_shl_in _ _ | exact pm_cmp_in _ _ | exact pm_b8_in _ | (unfold pm_inI; split <;> omega)) (fun _ => ?_) (fun h => absurd (show ¬ (1 : Int) = (0 : Int) by omega) h)
      refine g_aload_n lk_252_17 rfl ?_
      refine g_iload_n lk_252_18 rfl ?_
      refine g_iload_n lk_252_19 rfl ?_
      refine g_iload_n lk_252_20 rfl ?_
      refine g_virtual (p := 116) (Qc := _) lk_252_21 rfl (Nat.le_of_ble_eq_true rfl) rfl rfl (lay1.on (by decide) rfl) (Nat.le_of_ble_eq_true rfl) (Nat.le_of_ble_eq_true rfl) (Nat.zero_le _) (Nat.zero_le _) (gs lay1) ?_
      rintro _ K1 ⟨rfl, lay1, mf1, c59, -⟩
      show Wp _ 252 24 [(2, ((116 : Nat) : Int)), (0, (t : Int)), (0, (r : Int)), (0, (c : Int)), (0, (-1))] [(0, (wy L r c 9 0 : Int))] K1 _ _ _
      refine g_pop lk_252_24 rfl ?_
      refine g_iload lk_252_25 rfl ?_
      refine g_iconst lk_252_27 ?_
      refine g_icmp (t := 38) lk_252_28 rfl (by first | (unfold pm_inI; omega) | exact pm_and_in _ _ | exact pm_shr_in _ _ | exact pm_or_in _ _ | exact pm_xor_in _ _ | exact pm_shl_in _ _ | exact pm_cmp_in _ _ | exact pm_b8_in _ | (unfold pm_inI; split <;> omega)) (by first | (unfold pm_inI; omega) | exact pm_and_in _ _ | exact pm_shr_in _ _ | exact pm_or_in _ _ | exact pm_xor_in _ _ | exact pm_shl_in _ _ | exact pm_cmp_in _ _ | exact pm_b8_in _ | (unfold pm_inI; split <;> omega)) (fun h => absurd h (show ¬ (¬ (-1 : Int) = (-1 : Int)) by omega)) (fun _ => ?_)
      refine g_aload_n lk_252_31 rfl ?_
      refine m_getfield (u := []) (M := K1) lk_252_32 rfl (lay1.on (by decide) rfl) (v := (n : Int)) c59 ?_
      refine g_goto (t := 64) lk_252_35 rfl ?_
      refine g_ireturn lk_252_64 (fun h => absurd h (by decide)) ?_
      exact ⟨by rw [if_pos rfl], lay1, th.trans (mf1.mono (fun a q => q) (fun a q => by simp at q ⊢; omega))⟩
    rw [if_neg e1]
    have ci := fun (M : pm_M) => c_Mo_in (d := d + 2) (mc := 0) (ms := 0) (M := M) (v := i) (l := 0) (h := (n : Int) - 1) hii (by unfold pm_inI; omega) (by unfold pm_inI; omega)
    by_cases e2 : 0 ≤ i ∧ i ≤ (n : Int) - 1
    · rw [if_pos e2] at ci ⊢
      obtain ⟨a, rfl⟩ := Int.eq_ofNat_of_zero_le e2.1
      rw [Int.toNat_natCast]
      obtain ⟨y, hy⟩ : ∃ y : Int, y = if yesAt L r c (wn L r c a) then 1 else 0 := ⟨_, rfl⟩
      rw [← hy]
      refine g_aload_n lk_252_0 rfl ?_
      refine g_iconst lk_252_1 ?_
      have lay1 : Lay (Mu [(116, pm_upd (pm_ct M 116) 0 0)] M) := lay0.muF (l := []) (a := 116) (k := 0) (z := 0) rfl rfl
      refine m_putfield (u := []) (u' := [(116, pm_upd (pm_ct M 116) 0 0)]) (M := M) lk_252_2 rfl (lay0.on (by decide) rfl) (fun h => absurd h (by decide)) rfl ?_
      refine g_aload_n lk_252_5 rfl ?_
      refine g_iload_n lk_252_6 rfl ?_
      refine g_iload_n lk_252_7 rfl ?_
      refine g_iload_n lk_252_8 rfl ?_
      refine g_virtual (p := 116) (Qc := _) lk_252_9 rfl (Nat.le_of_ble_eq_true rfl) rfl rfl (lay1.on (by decide) rfl) (Nat.le_of_ble_eq_true rfl) (Nat.le_of_ble_eq_true rfl) (Nat.zero_le _) (Nat.zero_le _) (ia lay1) ?_
      rintro _ N2 ⟨rfl, hN2⟩
      rw [hN2]
      show Wp _ 252 12 [(2, ((116 : Nat) : Int)), (0, (t : Int)), (0, (r : Int)), (0, (c : Int)), (0, (a : Int))] [(0, 1)] (Mu [(116, pm_upd (pm_ct M 116) 0 0)] M) _ _ _
      refine g_if (t := 17) lk_252_12 rfl (by first | (unfold pm_inI; omega) | exact pm_and_in _ _ | exact pm_shr_in _ _ | exact pm_or_in _ _ | exact pm_xor_in _ _ | exact pm_shl_in _ _ | exact pm_cmp_in _ _ | exact pm_b8_in _ | (unfold pm_inI; split <;> omega)) (fun _ => ?_) (fun h => absurd (show ¬ (1 : Int) = (0 : Int) by omega) h)
      refine g_aload_n lk_252_17 rfl ?_
      refine g_iload_n lk_252_18 rfl ?_
      refine g_iload_n lk_252_19 rfl ?_
      refine g_iload_n lk_252_20 rfl ?_
      refine g_virtual (p := 116) (Qc := _) lk_252_21 rfl (Nat.le_of_ble_eq_true rfl) rfl rfl (lay1.on (by decide) rfl) (Nat.le_of_ble_eq_true rfl) (Nat.le_of_ble_eq_true rfl) (Nat.zero_le _) (Nat.zero_le _) (gs lay1) ?_
      rintro _ K1 ⟨rfl, lay1, mf1, c59, _, _, wa, -⟩
      have ba : pm_ct K1 152 a = y := (by rw [hy]; exact (wa a (by omega)).2)
      show Wp _ 252 24 [(2, ((116 : Nat) : Int)), (0, (t : Int)), (0, (r : Int)), (0, (c : Int)), (0, (a : Int))] [(0, (wy L r c 9 0 : Int))] K1 _ _ _
      refine g_pop lk_252_24 rfl ?_
      refine g_iload lk_252_25 rfl ?_
      refine g_iconst lk_252_27 ?_
      refine g_icmp (t := 38) lk_252_28 rfl (by first | (unfold pm_inI; omega) | exact pm_and_in _ _ | exact pm_shr_in _ _ | exact pm_or_in _ _ | exact pm_xor_in _ _ | exact pm_shl_in _ _ | exact pm_cmp_in _ _ | exact pm_b8_in _ | (unfold pm_inI; split <;> omega)) (by first | (unfold pm_inI; omega) | exact pm_and_in _ _ | exact pm_shr_in _ _ | exact pm_or_in _ _ | exact pm_xor_in _ _ | exact pm_shl_in _ _ | exact pm_cmp_in _ _ | exact pm_b8_in _ | (unfold pm_inI; split <;> omega)) (fun h3 => ?_) (fun h3 => ?_)
      · replace h3 : ¬ (a : Int) = (-1) := h3
        refine g_iload lk_252_38 rfl ?_
        refine g_iconst lk_252_40 ?_
        refine g_aload_n lk_252_41 rfl ?_
        refine m_getfield (u := []) (M := K1) lk_252_42 rfl (lay1.on (by decide) rfl) (v := (n : Int)) c59 ?_
        refine g_iconst lk_252_45 ?_
        refine g_isub lk_252_46 ?_
        refine g_static (Qc := _) lk_252_47 (by decide) rfl (Nat.le_of_ble_eq_true rfl) rfl rfl (Nat.le_of_ble_eq_true rfl) (Nat.le_of_ble_eq_true rfl) (Nat.zero_le _) (Nat.zero_le _) (ci _) ?_
        rintro _ N4 ⟨rfl, hN4⟩
        rw [hN4]
        show Wp _ 252 50 [(2, ((116 : Nat) : Int)), (0, (t : Int)), (0, (r : Int)), (0, (c : Int)), (0, (a : Int))] [(0, 1)] K1 _ _ _
        refine g_if (t := 63) lk_252_50 rfl (by first | (unfold pm_inI; omega) | exact pm_and_in _ _ | exact pm_shr_in _ _ | exact pm_or_in _ _ | exact pm_xor_in _ _ | exact pm_shl_in _ _ | exact pm_cmp_in _ _ | exact pm_b8_in _ | (unfold pm_inI; split <;> omega)) (fun h => absurd h (show ¬ ((1 : Int) = (0 : Int)) by omega)) (fun _ => ?_)
        refine g_aload_n lk_252_53 rfl ?_
        refine g_getfield lk_252_54 rfl (lay1.on (by decide) rfl) (v := ((152 : Nat) : Int)) (lay1.rf rfl) ?_
        refine g_iload lk_252_57 rfl ?_
        refine m_iaload (u := []) (M := K1) lk_252_59 (lay1.ay (by decide) rfl) (by omega) (j := a) (by omega) (v := y) ba ?_
        refine g_goto (t := 64) lk_252_60 rfl ?_
        refine g_ireturn lk_252_64 (fun h => absurd h (by decide)) ?_
        exact ⟨rfl, lay1, th.trans (mf1.mono (fun a q => q) (fun a q => by simp at q ⊢; omega))⟩
      · replace h3 : ¬ (¬ (a : Int) = (-1)) := h3
        refine g_aload_n lk_252_31 rfl ?_
        refine m_getfield (u := []) (M := K1) lk_252_32 rfl (lay1.on (by decide) rfl) (v := (n : Int)) c59 ?_
        refine g_goto (t := 64) lk_252_35 rfl ?_
        refine g_ireturn lk_252_64 (fun h => absurd h (by decide)) ?_
        omega
    · rw [if_neg e2] at ci ⊢
      refine g_aload_n lk_252_0 rfl ?_
      refine g_iconst lk_252_1 ?_
      have lay1 : Lay (Mu [(116, pm_upd (pm_ct M 116) 0 0)] M) := lay0.muF (l := []) (a := 116) (k := 0) (z := 0) rfl rfl
      refine m_putfield (u := []) (u' := [(116, pm_upd (pm_ct M 116) 0 0)]) (M := M) lk_252_2 rfl (lay0.on (by decide) rfl) (fun h => absurd h (by decide)) rfl ?_
      refine g_aload_n lk_252_5 rfl ?_
      refine g_iload_n lk_252_6 rfl ?_
      refine g_iload_n lk_252_7 rfl ?_
      refine g_iload_n lk_252_8 rfl ?_
      refine g_virtual (p := 116) (Qc := _) lk_252_9 rfl (Nat.le_of_ble_eq_true rfl) rfl rfl (lay1.on (by decide) rfl) (Nat.le_of_ble_eq_true rfl) (Nat.le_of_ble_eq_true rfl) (Nat.zero_le _) (Nat.zero_le _) (ia lay1) ?_
      rintro _ N2 ⟨rfl, hN2⟩
      rw [hN2]
      show Wp _ 252 12 [(2, ((116 : Nat) : Int)), (0, (t : Int)), (0, (r : Int)), (0, (c : Int)), (0, i)] [(0, 1)] (Mu [(116, pm_upd (pm_ct M 116) 0 0)] M) _ _ _
      refine g_if (t := 17) lk_252_12 rfl (by first | assumption | (unfold pm_inI; omega)) (fun _ => ?_) (fun h => absurd (show ¬ (1 : Int) = (0 : Int) by omega) h)
      refine g_aload_n lk_252_17 rfl ?_
      refine g_iload_n lk_252_18 rfl ?_
      refine g_iload_n lk_252_19 rfl ?_
      refine g_iload_n lk_252_20 rfl ?_
      refine g_virtual (p := 116) (Qc := _) lk_252_21 rfl (Nat.le_of_ble_eq_true rfl) rfl rfl (lay1.on (by decide) rfl) (Nat.le_of_ble_eq_true rfl) (Nat.le_of_ble_eq_true rfl) (Nat.zero_le _) (Nat.zero_le _) (gs lay1) ?_
      rintro _ K1 ⟨rfl, lay1, mf1, c59, -⟩
      show Wp _ 252 24 [(2, ((116 : Nat) : Int)), (0, (t : Int)), (0, (r : Int)), (0, (c : Int)), (0, i)] [(0, (wy L r c 9 0 : Int))] K1 _ _ _
      refine g_pop lk_252_24 rfl ?_
      refine g_iload lk_252_25 rfl ?_
      refine g_iconst lk_252_27 ?_
      refine g_icmp (t := 38) lk_252_28 rfl (by first | assumption | (unfold pm_inI; omega)) (by first | assumption | (unfold pm_inI; omega)) (fun h3 => ?_) (fun h3 => ?_)
      · replace h3 : ¬ i = (-1) := h3
        refine g_iload lk_252_38 rfl ?_
        refine g_iconst lk_252_40 ?_
        refine g_aload_n lk_252_41 rfl ?_
        refine m_getfield (u := []) (M := K1) lk_252_42 rfl (lay1.on (by decide) rfl) (v := (n : Int)) c59 ?_
        refine g_iconst lk_252_45 ?_
        refine g_isub lk_252_46 ?_
        refine g_static (Qc := _) lk_252_47 (by decide) rfl (Nat.le_of_ble_eq_true rfl) rfl rfl (Nat.le_of_ble_eq_true rfl) (Nat.le_of_ble_eq_true rfl) (Nat.zero_le _) (Nat.zero_le _) (ci _) ?_
        rintro _ N4 ⟨rfl, hN4⟩
        rw [hN4]
        show Wp _ 252 50 [(2, ((116 : Nat) : Int)), (0, (t : Int)), (0, (r : Int)), (0, (c : Int)), (0, i)] [(0, 0)] K1 _ _ _
        refine g_if (t := 63) lk_252_50 rfl (by first | assumption | (unfold pm_inI; omega)) (fun _ => ?_) (fun h => absurd (show (0 : Int) = (0 : Int) by omega) h)
        refine g_iconst lk_252_63 ?_
        refine g_ireturn lk_252_64 (fun h => absurd h (by decide)) ?_
        exact ⟨rfl, lay1, th.trans (mf1.mono (fun a q => q) (fun a q => by simp at q ⊢; omega))⟩
      · replace h3 : ¬ (¬ i = (-1)) := h3
        refine g_aload_n lk_252_31 rfl ?_
        refine m_getfield (u := []) (M := K1) lk_252_32 rfl (lay1.on (by decide) rfl) (v := (n : Int)) c59 ?_
        refine g_goto (t := 64) lk_252_35 rfl ?_
        refine g_ireturn lk_252_64 (fun h => absurd h (by decide)) ?_
        omega
  · rw [if_neg hi] at ia
    have es : sBit T Ts t r c i = -1 := by unfold sBit; rw [if_neg hi]
    rw [es]
    refine g_aload_n lk_252_0 rfl ?_
    refine g_iconst lk_252_1 ?_
    have lay1 : Lay (Mu [(116, pm_upd (pm_ct M 116) 0 0)] M) := lay0.muF (l := []) (a := 116) (k := 0) (z := 0) rfl rfl
    refine m_putfield (u := []) (u' := [(116, pm_upd (pm_ct M 116) 0 0)]) (M := M) lk_252_2 rfl (lay0.on (by decide) rfl) (fun h => absurd h (by decide)) rfl ?_
    refine g_aload_n lk_252_5 rfl ?_
    refine g_iload_n lk_252_6 rfl ?_
    refine g_iload_n lk_252_7 rfl ?_
    refine g_iload_n lk_252_8 rfl ?_
    refine g_virtual (p := 116) (Qc := _) lk_252_9 rfl (Nat.le_of_ble_eq_true rfl) rfl rfl (lay1.on (by decide) rfl) (Nat.le_of_ble_eq_true rfl) (Nat.le_of_ble_eq_true rfl) (Nat.zero_le _) (Nat.zero_le _) (ia lay1) ?_
    rintro _ N2 ⟨rfl, hN2⟩
    rw [hN2]
    show Wp _ 252 12 [(2, ((116 : Nat) : Int)), (0, t), (0, r), (0, c), (0, i)] [(0, 0)] (Mu [(116, pm_upd (pm_ct M 116) 0 0)] M) _ _ _
    refine g_if (t := 17) lk_252_12 rfl (by first | (unfold pm_inI; omega) | exact pm_and_in _ _ | exact pm_shr_in _ _ | exact pm_or_in _ _ | exact pm_xor_in _ _ | exact pm_shl_in _ _ | exact pm_cmp_in _ _ | exact pm_b8_in _ | (unfold pm_inI; split <;> omega)) (fun h => absurd h (show ¬ (¬ (0 : Int) = (0 : Int)) by omega)) (fun _ => ?_)
    refine g_iconst lk_252_15 ?_
    refine g_ireturn lk_252_16 (fun h => absurd h (by decide)) ?_
    exact ⟨rfl, lay1, th⟩
