/-! ===== rows of a text: as mathematics, and by the class ===== -/
def cv (c : Nat) : Nat := if c = 46 then 10 else c - 48
def rowX (ch : Nat → Nat) (X : Nat → Nat) (r a k j : Nat) : Nat := if 6 * r ≤ j ∧ j < 6 * r + k then cv (ch (a + (j - 6 * r))) else X j
def pRow (ch : Nat → Nat) (n r : Nat) (T : Tab) (t : Tok) : Sum (Nat × Nat) (Tab × Tok) :=
  if 0 < r ∧ ¬ t.2.2 - t.2.1 = tC T then .inl (flt 4 t)
  else if 6 ≤ r then .inl (flt 5 t)
  else match pStop ch n (lxt ch n t.2.2) with
    | .inl e => .inl e
    | .inr t' => .inr ((r + 1, t.2.2 - t.2.1, rowX ch T.2.2.1 r t.2.1 (t.2.2 - t.2.1), tA T, tB T), t')
def pRs (ch : Nat → Nat) (n : Nat) : Nat → Nat → Tab → Tok → Sum (Nat × Nat) (Tab × Tok)
  | 0, _, T, t => .inr (T, t)
  | f + 1, r, T, t => if t.1 = 2 then (match pRow ch n r T t with
    | .inl e => .inl e
    | .inr (T', t') => pRs ch n f (r + 1) T' t') else .inr (T, t)
def T00 : Tab := (0, 0, fun _ => 10, 1, 1)
def pRows (ch : Nat → Nat) (n : Nat) (t : Tok) : Sum (Nat × Nat) (Tab × Tok) := if t.1 = 2 then pRs ch n 7 0 T00 t else .inl (flt 2 t)
theorem rowX_step {ch X : Nat → Nat} {f : Nat → Int} {r a i : Nat} {z : Int} (h : ∀ j, j < 36 → f j = (rowX ch X r a i j : Int)) (hz : z = (cv (ch (a + i)) : Int)) : ∀ j, j < 36 → pm_upd f (6 * r + i) z j = (rowX ch X r a (i + 1) j : Int) := by
  intro j hj
  by_cases e : j = 6 * r + i
  · rw [e, pm_upd_eq, hz]
    unfold rowX
    rw [if_pos (by omega), show 6 * r + i - 6 * r = i by omega]
  · rw [pm_upd_ne e, h j hj]
    unfold rowX
    by_cases g : 6 * r ≤ j ∧ j < 6 * r + i
    · rw [if_pos g, if_pos (by omega)]
    · rw [if_neg g, if_neg (by omega)]
theorem rowX_zero {ch X : Nat → Nat} {r a : Nat} (j : Nat) : rowX ch X r a 0 j = X j := by
  unfold rowX
  rw [if_neg (by omega)]
theorem cv_46 {c : Nat} (h : c = 46) : (10 : Int) = (cv c : Int) := by unfold cv; rw [if_pos h]; rfl
theorem cv_n {c : Nat} (h : 48 ≤ c) : (c : Int) - 48 = (cv c : Int) := by unfold cv; rw [if_neg (by omega)]; omega
theorem c_Table_wipe {d mc ms : Nat} {M : pm_M} (lay : Lay M) :
    pm_E d 82 [(2, ((4 : Nat) : Int))] M mc ms (fun ρ M' => ρ = none ∧ Lay M' ∧ Fr [4, 5] M M' ∧ TbAt M' 4 T00) := by
  obtain ⟨Q, hQ⟩ : ∃ Q : pm_Q, Q = (fun ρ M' => ρ = none ∧ Lay M' ∧ Fr [4, 5] M M' ∧ TbAt M' 4 T00) := ⟨_, rfl⟩
  rw [← hQ]
  show Wp d 82 0 [(2, ((4 : Nat) : Int)), (9, 0)] [] M mc ms Q
  have loop : ∀ (k i : Nat) (K : pm_M), i + k = 36 → Lay K → Fr [4, 5] M K → (∀ j, j < i → pm_ct K 5 j = 10) → Wp d 82 2 [(2, ((4 : Nat) : Int)), (0, (i : Int))] [] K mc ms Q := by
    intro k
    induction k with
    | zero =>
      intro i K hi layK fK hK
      refine g_iload_n lk_82_2 rfl ?_
      refine g_aload_n lk_82_3 rfl ?_
      refine g_getfield lk_82_4 rfl (layK.on (by decide) rfl) (v := ((5 : Nat) : Int)) (layK.rf rfl) ?_
      refine g_arraylength (n := 36) lk_82_7 (by decide) (layK.ay (by decide) rfl) ?_
      refine g_icmp (t := 25) lk_82_8 rfl (by first | (unfold pm_inI; omega) | exact pm_and_in _ _ | exact pm_shr_in _ _ | exact pm_or_in _ _ | exact pm_xor_in _ _ | exact pm_shl_in _ _ | exact pm_cmp_in _ _ | exact pm_b8_in _ | (unfold pm_inI; split <;> omega)) (by first | (unfold pm_inI; omega) | exact pm_and_in _ _ | exact pm_shr_in _ _ | exact pm_or_in _ _ | exact pm_xor_in _ _ | exact pm_shl_in _ _ | exact pm_cmp_in _ _ | exact pm_b8_in _ | (unfold pm_inI; split <;> omega)) (fun h1 => ?_) (fun h1 => ?_)
      · replace h1 : 36 ≤ (i : Int) := h1
        refine g_aload_n lk_82_25 rfl ?_
        refine g_iconst lk_82_26 ?_
        have lay2 : Lay (Mu [(4, pm_upd (pm_ct K 4) 1 0)] K) := layK.muF (l := []) (a := 4) (k := 1) (z := 0) rfl rfl
        refine m_putfield (u := []) (u' := [(4, pm_upd (pm_ct K 4) 1 0)]) (M := K) lk_82_27 rfl (layK.on (by decide) rfl) (fun h => absurd h (by decide)) rfl ?_
        refine g_aload_n lk_82_30 rfl ?_
        refine g_iconst lk_82_31 ?_
        have lay3 : Lay (Mu [(4, pm_upd (pm_upd (pm_ct K 4) 1 0) 2 0)] K) := lay2.muF (l := [(4, pm_upd (pm_ct K 4) 1 0)]) (a := 4) (k := 2) (z := 0) rfl rfl
        refine m_putfield (u := [(4, pm_upd (pm_ct K 4) 1 0)]) (u' := [(4, pm_upd (pm_upd (pm_ct K 4) 1 0) 2 0)]) (M := K) lk_82_32 rfl (lay2.on (by decide) rfl) (fun h => absurd h (by decide)) rfl ?_
        refine g_aload_n lk_82_35 rfl ?_
        refine g_iconst lk_82_36 ?_
        have lay4 : Lay (Mu [(4, pm_upd (pm_upd (pm_upd (pm_ct K 4) 1 0) 2 0) 3 1)] K) := lay3.muF (l := [(4, pm_upd (pm_upd (pm_ct K 4) 1 0) 2 0)]) (a := 4) (k := 3) (z := 1) rfl rfl
        refine m_putfield (u := [(4, pm_upd (pm_upd (pm_ct K 4) 1 0) 2 0)]) (u' := [(4, pm_upd (pm_upd (pm_upd (pm_ct K 4) 1 0) 2 0) 3 1)]) (M := K) lk_82_37 rfl (lay3.on (by decide) rfl) (fun h => absurd h (by decide)) rfl ?_
        refine g_aload_n lk_82_40 rfl ?_
        refine g_iconst lk_82_41 ?_
        have lay5 : Lay (Mu [(4, pm_upd (pm_upd (pm_upd (pm_upd (pm_ct K 4) 1 0) 2 0) 3 1) 4 1)] K) := lay4.muF (l := [(4, pm_upd (pm_upd (pm_upd (pm_ct K 4) 1 0) 2 0) 3 1)]) (a := 4) (k := 4) (z := 1) rfl rfl
        refine m_putfield (u := [(4, pm_upd (pm_upd (pm_upd (pm_ct K 4) 1 0) 2 0) 3 1)]) (u' := [(4, pm_upd (pm_upd (pm_upd (pm_upd (pm_ct K 4) 1 0) 2 0) 3 1) 4 1)]) (M := K) lk_82_42 rfl (lay4.on (by decide) rfl) (fun h => absurd h (by decide)) rfl ?_
        refine g_return lk_82_45 ?_
        rw [hQ]
        exact ⟨rfl, lay5, fK.trans (Fr.mu _ _ rfl), by rw [Mu_ct]; rfl, by rw [Mu_ct]; rfl, by rw [Mu_ct]; rfl, by rw [Mu_ct]; rfl, fun j hj => by rw [Mu_ct]; exact hK j (by omega)⟩
      · replace h1 : ¬ (36 ≤ (i : Int)) := h1
        omega
    | succ k ih =>
      intro i K hi layK fK hK
      refine g_iload_n lk_82_2 rfl ?_
      refine g_aload_n lk_82_3 rfl ?_
      refine g_getfield lk_82_4 rfl (layK.on (by decide) rfl) (v := ((5 : Nat) : Int)) (layK.rf rfl) ?_
      refine g_arraylength (n := 36) lk_82_7 (by decide) (layK.ay (by decide) rfl) ?_
      refine g_icmp (t := 25) lk_82_8 rfl (by first | (unfold pm_inI; omega) | exact pm_and_in _ _ | exact pm_shr_in _ _ | exact pm_or_in _ _ | exact pm_xor_in _ _ | exact pm_shl_in _ _ | exact pm_cmp_in _ _ | exact pm_b8_in _ | (unfold pm_inI; split <;> omega)) (by first | (unfold pm_inI; omega) | exact pm_and_in _ _ | exact pm_shr_in _ _ | exact pm_or_in _ _ | exact pm_xor_in _ _ | exact pm_shl_in _ _ | exact pm_cmp_in _ _ | exact pm_b8_in _ | (unfold pm_inI; split <;> omega)) (fun h1 => ?_) (fun h1 => ?_)
      · replace h1 : 36 ≤ (i : Int) := h1
        omega
      · replace h1 : ¬ (36 ≤ (i : Int)) := h1
        refine g_aload_n lk_82_11 rfl ?_
        refine g_getfield lk_82_12 rfl (layK.on (by decide) rfl) (v := ((5 : Nat) : Int)) (layK.rf rfl) ?_
        refine g_iload_n lk_82_15 rfl ?_
        refine g_bipush lk_82_16 ?_
        have lay2 : Lay (Mu [(5, pm_upd (pm_ct K 5) i 10)] K) := layK.muA (l := []) (a := 5) (f := pm_upd (pm_ct K 5) i 10) rfl rfl
        refine m_iastore (u := []) (u' := [(5, pm_upd (pm_ct K 5) i 10)]) (M := K) lk_82_18 (layK.ay (by decide) rfl) (by omega) (j := i) (by omega) rfl ?_
        refine g_iinc (ls' := [(2, ((4 : Nat) : Int)), (0, ((i : Int) + 1))]) lk_82_19 rfl rfl rfl ?_
        refine g_goto (t := 2) lk_82_22 rfl ?_
        exact ih (i + 1) (Mu [(5, pm_upd (pm_ct K 5) i 10)] K) (by omega) lay2 (fK.trans (Fr.mu _ _ rfl)) (fun j hj => by
          rw [Mu_ct]
          show pm_upd (pm_ct K 5) i 10 j = 10
          by_cases e : j = i
          · rw [e, pm_upd_eq]
          · rw [pm_upd_ne e]; exact hK j (by omega))
  refine g_iconst lk_82_0 ?_
  refine g_istore_n (ls' := [(2, ((4 : Nat) : Int)), (0, 0)]) lk_82_1 rfl rfl ?_
  exact loop 36 0 M (by omega) lay (Fr.refl _ _) (fun j hj => by omega)
/-- what reading rows and costs may change -/
def RwF (M N : pm_M) : Prop := Fr [2, 4, 5] M N ∧ ∀ k, k ∉ [6, 7, 9, 10, 11, 12, 13] → pm_ct N 2 k = pm_ct M 2 k
theorem RwF.refl (M : pm_M) : RwF M M := ⟨Fr.refl _ _, fun _ _ => rfl⟩
theorem RwF.trans {M N K : pm_M} (h : RwF M N) (k : RwF N K) : RwF M K := ⟨h.1.trans k.1, fun j hj => (k.2 j hj).trans (h.2 j hj)⟩
theorem ReF.rw {M N : pm_M} (h : ReF M N) : RwF M N := ⟨h.1.mono (fun a q => by simp at q; simp [q]), h.2⟩
theorem Fr.rw {M N : pm_M} (h : Fr [4, 5] M N) : RwF M N := ⟨h.mono (fun a q => by simp at q; simp; omega), fun j _ => by rw [h.ct (by decide)]⟩
theorem RwF.tc {n : Nat} {ch : Nat → Nat} {M N : pm_M} (h : RwF M N) (hM : TcX M n ch) : TcX N n ch := by
  unfold TcX at hM ⊢
  rw [h.2 4 (by decide), h.1.ct (a := 3) (by decide)]; exact hM
theorem Fr.tk45 {M N : pm_M} (h : Fr [4, 5] M N) {ch : Nat → Nat} {t : Tok} (hT : TkX M ch t) : TkX N ch t := by
  unfold TkX at hT ⊢
  rw [h.ct (by decide)]; exact hT
theorem ReF.tb {M N : pm_M} {T : Tab} (h : ReF M N) (hT : TbAt M 4 T) : TbAt N 4 T := by
  unfold TbAt at hT ⊢
  rw [h.1.ct (a := 4) (by decide), h.1.ct (a := 4 + 1) (by decide)]; exact hT
set_option maxHeartbeats 4000000 in
theorem c_Reader_readRow {d mc ms : Nat} {M : pm_M} (lay : Lay M) {n : Nat} {ch : Nat → Nat} (hM : TcX M n ch) {t : Tok} (hT : TkX M ch t) (hK : TkOK ch n t) (t2 : t.1 = 2) {T : Tab} (hB : TbAt M 4 T) (hC6 : tC T ≤ 6) {r : Nat} (r6 : r ≤ 6) :
    pm_E (d + 3) 60 [(2, ((2 : Nat) : Int)), (0, (r : Int))] M mc ms (fun ρ M' => Lay M' ∧ RwF M M' ∧ ResX ρ M' (fun x => TkX M' ch x.2 ∧ TbAt M' 4 x.1 ∧ Sv M M') (pRow ch n r T t)) := by
  have n5 := hM.1
  obtain ⟨t4, k2, k3, k4, k5, k6⟩ := id hK
  have six := (k6 (Or.inr t2)).1
  have lt := k5 (by omega)
  have f12 := hT.2.2.1
  have fc := hB.2.1
  have rf4 := c_Reader_refuse (d := d + 2) (mc := 0) (ms := 0) lay hT hK.1 (w := 4)
  have rf5 := c_Reader_refuse (d := d + 2) (mc := 0) (ms := 0) lay hT hK.1 (w := 5)
  obtain ⟨Q, hQ⟩ : ∃ Q : pm_Q, Q = (fun ρ M' => Lay M' ∧ RwF M M' ∧ ResX ρ M' (fun x => TkX M' ch x.2 ∧ TbAt M' 4 x.1 ∧ Sv M M') (pRow ch n r T t)) := ⟨_, rfl⟩
  rw [← hQ]
  show Wp (d + 3) 60 0 [(2, ((2 : Nat) : Int)), (0, (r : Int)), (9, 0), (9, 0)] [] M mc ms Q
  obtain ⟨z, hz⟩ : ∃ z, z = t.2.2 - t.2.1 := ⟨_, rfl⟩
  obtain ⟨C, hC⟩ : ∃ C, C = tC T := ⟨_, rfl⟩
  rw [← hz] at f12
  rw [← hC] at fc hC6
  by_cases a : 0 < r ∧ ¬ z = C
  · have ep : pRow ch n r T t = .inl (flt 4 t) := by unfold pRow; rw [← hz, ← hC, if_pos a]
    rw [ep] at hQ
    refine g_iload_n lk_60_0 rfl ?_
    refine g_if (t := 24) lk_60_1 rfl (by first | (unfold pm_inI; omega) | exact pm_and_in _ _ | exact pm_shr_in _ _ | exact pm_or_in _ _ | exact pm_xor_in _ _ | exact pm_shl_in _ _ | exact pm_cmp_in _ _ | exact pm_b8_in _ | (unfold pm_inI; split <;> omega)) (fun h1 => ?_) (fun h1 => ?_)
    · replace h1 : (r : Int) ≤ 0 := h1
      omega
    · replace h1 : ¬ ((r : Int) ≤ 0) := h1
      refine g_aload_n lk_60_4 rfl ?_
      refine m_getfield (u := []) (M := M) lk_60_5 rfl (lay.on (by decide) rfl) (v := (z : Int)) f12 ?_
      refine g_aload_n lk_60_8 rfl ?_
      refine g_getfield lk_60_9 rfl (lay.on (by decide) rfl) (v := ((4 : Nat) : Int)) (lay.rf rfl) ?_
      refine m_getfield (u := []) (M := M) lk_60_12 rfl (lay.on (by decide) rfl) (v := (C : Int)) fc ?_
      refine g_icmp (t := 24) lk_60_15 rfl (by first | (unfold pm_inI; omega) | exact pm_and_in _ _ | exact pm_shr_in _ _ | exact pm_or_in _ _ | exact pm_xor_in _ _ | exact pm_shl_in _ _ | exact pm_cmp_in _ _ | exact pm_b8_in _ | (unfold pm_inI; split <;> omega)) (by first | (unfold pm_inI; omega) | exact pm_and_in _ _ | exact pm_shr_in _ _ | exact pm_or_in _ _ | exact pm_xor_in _ _ | exact pm_shl_in _ _ | exact pm_cmp_in _ _ | exact pm_b8_in _ | (unfold pm_inI; split <;> omega)) (fun h2 => ?_) (fun h2 => ?_)
      · replace h2 : (z : Int) = (C : Int) := h2
        omega
      · replace h2 : ¬ ((z : Int) = (C : Int)) := h2
        refine g_aload_n lk_60_18 rfl ?_
        refine g_iconst lk_60_19 ?_
        refine g_virtual (p := 2) (Qc := _) lk_60_20 rfl (Nat.le_of_ble_eq_true rfl) rfl rfl (lay.on (by decide) rfl) (Nat.le_of_ble_eq_true rfl) (Nat.le_of_ble_eq_true rfl) (Nat.zero_le _) (Nat.zero_le _) (rf4) ?_
        rintro _ K1 ⟨rfl, lay1, re1, ft1⟩
        show Wp _ 60 23 [(2, ((2 : Nat) : Int)), (0, (r : Int)), (9, 0), (9, 0)] [(0, 0)] K1 _ _ _
        refine g_ireturn lk_60_23 (fun _ => by omega) ?_
        rw [hQ]
        exact ⟨lay1, re1.rw, rfl, ft1⟩
  · by_cases b : 6 ≤ r
    · have ep : pRow ch n r T t = .inl (flt 5 t) := by unfold pRow; rw [← hz, ← hC, if_neg a, if_pos b]
      rw [ep] at hQ
      refine g_iload_n lk_60_0 rfl ?_
      refine g_if (t := 24) lk_60_1 rfl (by first | (unfold pm_inI; omega) | exact pm_and_in _ _ | exact pm_shr_in _ _ | exact pm_or_in _ _ | exact pm_xor_in _ _ | exact pm_shl_in _ _ | exact pm_cmp_in _ _ | exact pm_b8_in _ | (unfold pm_inI; split <;> omega)) (fun h1 => ?_) (fun h1 => ?_)
      · replace h1 : (r : Int) ≤ 0 := h1
        refine g_iload_n lk_60_24 rfl ?_
        refine g_bipush lk_60_25 ?_
        refine g_icmp (t := 36) lk_60_27 rfl (by first | (unfold pm_inI; omega) | exact pm_and_in _ _ | exact pm_shr_in _ _ | exact pm_or_in _ _ | exact pm_xor_in _ _ | exact pm_shl_in _ _ | exact pm_cmp_in _ _ | exact pm_b8_in _ | (unfold pm_inI; split <;> omega)) (by first | (unfold pm_inI; omega) | exact pm_and_in _ _ | exact pm_shr_in _ _ | exact pm_or_in _ _ | exact pm_xor_in _ _ | exact pm_shl_in _ _ | exact pm_cmp_in _ _ | exact pm_b8_in _ | (unfold pm_inI; split <;> omega)) (fun h2 => ?_) (fun h2 => ?_)
        · replace h2 : (r : Int) < 6 := h2
          omega
        · replace h2 : ¬ ((r : Int) < 6) := h2
          refine g_aload_n lk_60_30 rfl ?_
          refine g_iconst lk_60_31 ?_
          refine g_virtual (p := 2) (Qc := _) lk_60_32 rfl (Nat.le_of_ble_eq_true rfl) rfl rfl (lay.on (by decide) rfl) (Nat.le_of_ble_eq_true rfl) (Nat.le_of_ble_eq_true rfl) (Nat.zero_le _) (Nat.zero_le _) (rf5) ?_
          rintro _ K1 ⟨rfl, lay1, re1, ft1⟩
          show Wp _ 60 35 [(2, ((2 : Nat) : Int)), (0, (r : Int)), (9, 0), (9, 0)] [(0, 0)] K1 _ _ _
          refine g_ireturn lk_60_35 (fun _ => by omega) ?_
          rw [hQ]
          exact ⟨lay1, re1.rw, rfl, ft1⟩
      · replace h1 : ¬ ((r : Int) ≤ 0) := h1
        refine g_aload_n lk_60_4 rfl ?_
        refine m_getfield (u := []) (M := M) lk_60_5 rfl (lay.on (by decide) rfl) (v := (z : Int)) f12 ?_
        refine g_aload_n lk_60_8 rfl ?_
        refine g_getfield lk_60_9 rfl (lay.on (by decide) rfl) (v := ((4 : Nat) : Int)) (lay.rf rfl) ?_
        refine m_getfield (u := []) (M := M) lk_60_12 rfl (lay.on (by decide) rfl) (v := (C : Int)) fc ?_
        refine g_icmp (t := 24) lk_60_15 rfl (by first | (unfold pm_inI; omega) | exact pm_and_in _ _ | exact pm_shr_in _ _ | exact pm_or_in _ _ | exact pm_xor_in _ _ | exact pm_shl_in _ _ | exact pm_cmp_in _ _ | exact pm_b8_in _ | (unfold pm_inI; split <;> omega)) (by first | (unfold pm_inI; omega) | exact pm_and_in _ _ | exact pm_shr_in _ _ | exact pm_or_in _ _ | exact pm_xor_in _ _ | exact pm_shl_in _ _ | exact pm_cmp_in _ _ | exact pm_b8_in _ | (unfold pm_inI; split <;> omega)) (fun h3 => ?_) (fun h3 => ?_)
        · replace h3 : (z : Int) = (C : Int) := h3
          refine g_iload_n lk_60_24 rfl ?_
          refine g_bipush lk_60_25 ?_
          refine g_icmp (t := 36) lk_60_27 rfl (by first | (unfold pm_inI; omega) | exact pm_and_in _ _ | exact pm_shr_in _ _ | exact pm_or_in _ _ | exact pm_xor_in _ _ | exact pm_shl_in _ _ | exact pm_cmp_in _ _ | exact pm_b8_in _ | (unfold pm_inI; split <;> omega)) (by first | (unfold pm_inI; omega) | exact pm_and_in _ _ | exact pm_shr_in _ _ | exact pm_or_in _ _ | exact pm_xor_in _ _ | exact pm_shl_in _ _ | exact pm_cmp_in _ _ | exact pm_b8_in _ | (unfold pm_inI; split <;> omega)) (fun h4 => ?_) (fun h4 => ?_)
          · replace h4 : (r : Int) < 6 := h4
            omega
          · replace h4 : ¬ ((r : Int) < 6) := h4
            refine g_aload_n lk_60_30 rfl ?_
            refine g_iconst lk_60_31 ?_
            refine g_virtual (p := 2) (Qc := _) lk_60_32 rfl (Nat.le_of_ble_eq_true rfl) rfl rfl (lay.on (by decide) rfl) (Nat.le_of_ble_eq_true rfl) (Nat.le_of_ble_eq_true rfl) (Nat.zero_le _) (Nat.zero_le _) (rf5) ?_
            rintro _ K1 ⟨rfl, lay1, re1, ft1⟩
            show Wp _ 60 35 [(2, ((2 : Nat) : Int)), (0, (r : Int)), (9, 0), (9, 0)] [(0, 0)] K1 _ _ _
            refine g_ireturn lk_60_35 (fun _ => by omega) ?_
            rw [hQ]
            exact ⟨lay1, re1.rw, rfl, ft1⟩
        · replace h3 : ¬ ((z : Int) = (C : Int)) := h3
          omega
    · have uk := (lxt_ok (ch := ch) k3 n5).1
      have fin : ∀ (v2 v3 : pm_V) (K1 : pm_M), Lay K1 → Fr [4, 5] M K1 → TbAt K1 4 (r + 1, z, rowX ch T.2.2.1 r t.2.1 z, tA T, tB T) → Wp (d + 3) 60 114 [(2, ((2 : Nat) : Int)), (0, (r : Int)), v2, v3] [] K1 mc ms Q := by
        intro v2 v3 K1 lay1 fr1 tb1
        have ad := c_Reader_advance (d := d + 1) (mc := 0) (ms := 0) lay1 (fr1.rw.tc hM) (fr1.tk45 hT).2.2.2.1 k3
        cases hp : pStop ch n (lxt ch n t.2.2) with
        | inl e =>
          have ep : pRow ch n r T t = .inl e := by unfold pRow; rw [← hz, ← hC, if_neg a, if_neg b, hp]
          rw [ep] at hQ
          refine g_aload_n lk_60_114 rfl ?_
          refine g_virtual (p := 2) (Qc := _) lk_60_115 rfl (Nat.le_of_ble_eq_true rfl) rfl rfl (lay1.on (by decide) rfl) (Nat.le_of_ble_eq_true rfl) (Nat.le_of_ble_eq_true rfl) (Nat.zero_le _) (Nat.zero_le _) (ad) ?_
          rintro _ K2 ⟨rfl, lay2, rd2, tk2⟩
          have st := c_Reader_readStop (d := d) (mc := 0) (ms := 0) lay2 ((fr1.rw.tc hM).rd rd2) tk2 uk
          rw [hp] at st
          show Wp _ 60 118 [(2, ((2 : Nat) : Int)), (0, (r : Int)), v2, v3] [] K2 _ _ _
          refine g_aload_n lk_60_118 rfl ?_
          refine g_virtual (p := 2) (Qc := _) lk_60_119 rfl (Nat.le_of_ble_eq_true rfl) rfl rfl (lay2.on (by decide) rfl) (Nat.le_of_ble_eq_true rfl) (Nat.le_of_ble_eq_true rfl) (Nat.zero_le _) (Nat.zero_le _) (st) ?_
          rintro _ K3 ⟨lay3, re3, rfl, ft3⟩
          show Wp _ 60 122 [(2, ((2 : Nat) : Int)), (0, (r : Int)), v2, v3] [(0, 0)] K3 _ _ _
          refine g_ireturn lk_60_122 (fun _ => by omega) ?_
          rw [hQ]
          exact ⟨lay3, (fr1.rw.trans rd2.re.rw).trans re3.rw, rfl, ft3⟩
        | inr t' =>
          have ep : pRow ch n r T t = .inr ((r + 1, z, rowX ch T.2.2.1 r t.2.1 z, tA T, tB T), t') := by unfold pRow; rw [← hz, ← hC, if_neg a, if_neg b, hp]
          rw [ep] at hQ
          refine g_aload_n lk_60_114 rfl ?_
          refine g_virtual (p := 2) (Qc := _) lk_60_115 rfl (Nat.le_of_ble_eq_true rfl) rfl rfl (lay1.on (by decide) rfl) (Nat.le_of_ble_eq_true rfl) (Nat.le_of_ble_eq_true rfl) (Nat.zero_le _) (Nat.zero_le _) (ad) ?_
          rintro _ K2 ⟨rfl, lay2, rd2, tk2⟩
          have st := c_Reader_readStop (d := d) (mc := 0) (ms := 0) lay2 ((fr1.rw.tc hM).rd rd2) tk2 uk
          rw [hp] at st
          show Wp _ 60 118 [(2, ((2 : Nat) : Int)), (0, (r : Int)), v2, v3] [] K2 _ _ _
          refine g_aload_n lk_60_118 rfl ?_
          refine g_virtual (p := 2) (Qc := _) lk_60_119 rfl (Nat.le_of_ble_eq_true rfl) rfl rfl (lay2.on (by decide) rfl) (Nat.le_of_ble_eq_true rfl) (Nat.le_of_ble_eq_true rfl) (Nat.zero_le _) (Nat.zero_le _) (st) ?_
          rintro _ K3 ⟨lay3, re3, rfl, tk3, sv3⟩
          show Wp _ 60 122 [(2, ((2 : Nat) : Int)), (0, (r : Int)), v2, v3] [(0, 1)] K3 _ _ _
          refine g_ireturn lk_60_122 (fun _ => by omega) ?_
          rw [hQ]
          exact ⟨lay3, (fr1.rw.trans rd2.re.rw).trans re3.rw, rfl, tk3, re3.tb (rd2.re.tb tb1), ((fr1.sv (by decide)).trans rd2.sv).trans sv3⟩
      have loop : ∀ (k i : Nat) (v3 : pm_V) (K : pm_M), i + k = z → Lay K → Fr [4, 5] M K → pm_ct K 4 = pm_ct M 4 → (∀ j, j < 36 → pm_ct K 5 j = (rowX ch T.2.2.1 r t.2.1 i j : Int)) → Wp (d + 3) 60 38 [(2, ((2 : Nat) : Int)), (0, (r : Int)), (0, (i : Int)), v3] [] K mc ms Q := by
        intro k
        induction k with
        | zero =>
          intro i v3 K hi layK fK c4 hX
          have f12K : pm_ct K 2 12 = (z : Int) := by rw [fK.ct (by decide)]; exact f12
          have ei : i = z := by omega
          rw [ei] at hX
          refine g_iload_n lk_60_38 rfl ?_
          refine g_aload_n lk_60_39 rfl ?_
          refine m_getfield (u := []) (M := K) lk_60_40 rfl (layK.on (by decide) rfl) (v := (z : Int)) f12K ?_
          refine g_icmp (t := 93) lk_60_43 rfl (by first | (unfold pm_inI; omega) | exact pm_and_in _ _ | exact pm_shr_in _ _ | exact pm_or_in _ _ | exact pm_xor_in _ _ | exact pm_shl_in _ _ | exact pm_cmp_in _ _ | exact pm_b8_in _ | (unfold pm_inI; split <;> omega)) (by first | (unfold pm_inI; omega) | exact pm_and_in _ _ | exact pm_shr_in _ _ | exact pm_or_in _ _ | exact pm_xor_in _ _ | exact pm_shl_in _ _ | exact pm_cmp_in _ _ | exact pm_b8_in _ | (unfold pm_inI; split <;> omega)) (fun h1 => ?_) (fun h1 => ?_)
          · replace h1 : (z : Int) ≤ (i : Int) := h1
            refine g_aload_n lk_60_93 rfl ?_
            refine g_getfield lk_60_94 rfl (layK.on (by decide) rfl) (v := ((4 : Nat) : Int)) (layK.rf rfl) ?_
            refine g_aload_n lk_60_97 rfl ?_
            refine m_getfield (u := []) (M := K) lk_60_98 rfl (layK.on (by decide) rfl) (v := (z : Int)) f12K ?_
            have lay2 : Lay (Mu [(4, pm_upd (pm_ct K 4) 2 (z : Int))] K) := layK.muF (l := []) (a := 4) (k := 2) (z := (z : Int)) rfl rfl
            refine m_putfield (u := []) (u' := [(4, pm_upd (pm_ct K 4) 2 (z : Int))]) (M := K) lk_60_101 rfl (layK.on (by decide) rfl) (fun h => absurd h (by decide)) rfl ?_
            refine g_aload_n lk_60_104 rfl ?_
            refine g_getfield lk_60_105 rfl (lay2.on (by decide) rfl) (v := ((4 : Nat) : Int)) (lay2.rf rfl) ?_
            refine g_iload_n lk_60_108 rfl ?_
            refine g_iconst lk_60_109 ?_
            refine g_iadd lk_60_110 ?_
            have lay3 : Lay (Mu [(4, pm_upd (pm_upd (pm_ct K 4) 2 (z : Int)) 1 ((r : Int) + 1))] K) := lay2.muF (l := [(4, pm_upd (pm_ct K 4) 2 (z : Int))]) (a := 4) (k := 1) (z := ((r : Int) + 1)) rfl rfl
            refine m_putfield (u := [(4, pm_upd (pm_ct K 4) 2 (z : Int))]) (u' := [(4, pm_upd (pm_upd (pm_ct K 4) 2 (z : Int)) 1 ((r : Int) + 1))]) (M := K) lk_60_111 rfl (lay2.on (by decide) rfl) (fun h => absurd h (by decide)) rfl ?_
            exact fin _ _ (Mu [(4, pm_upd (pm_upd (pm_ct K 4) 2 (z : Int)) 1 ((r : Int) + 1))] K) lay3 (fK.trans (Fr.mu _ _ rfl)) ⟨by rw [Mu_ct]; rfl, by rw [Mu_ct]; rfl, by rw [Mu_ct]; show pm_ct K 4 3 = _; rw [c4]; exact hB.2.2.1, by rw [Mu_ct]; show pm_ct K 4 4 = _; rw [c4]; exact hB.2.2.2.1, fun j hj => by rw [Mu_ct]; exact hX j hj⟩
          · replace h1 : ¬ ((z : Int) ≤ (i : Int)) := h1
            omega
        | succ k ih =>
          intro i v3 K hi layK fK c4 hX
          have f12K : pm_ct K 2 12 = (z : Int) := by rw [fK.ct (by decide)]; exact f12
          have sg := c_Reader_sign (d := d + 2) (mc := 0) (ms := 0) layK (fK.rw.tc hM) (fK.tk45 hT) hK t2 (i := i) (by omega)
          have rc := run_ch hK t2 (i := t.2.1 + i) (by omega) (by omega)
          have nx : ∀ (v : Int) (v4 : pm_V) (K1 : pm_M), v = (cv (ch (t.2.1 + i)) : Int) → Lay K1 → Fr [4, 5] K K1 → pm_ct K1 4 = pm_ct K 4 → pm_ct K1 5 = pm_upd (pm_ct K 5) (6 * r + i) v → Wp (d + 3) 60 38 [(2, ((2 : Nat) : Int)), (0, (r : Int)), (0, ((i + 1 : Nat) : Int)), v4] [] K1 mc ms Q := fun v v4 K1 hv l1 f1 g4 g5 => ih (i + 1) v4 K1 (by omega) l1 (fK.trans f1) (g4.trans c4) (fun j hj => by rw [g5]; exact rowX_step hX hv j hj)
          have ix : (r : Int) * 6 + (i : Int) = ((6 * r + i : Nat) : Int) := by omega
          have cA := fun e => cv_46 (c := ch (t.2.1 + i)) e
          have cB := fun e => cv_n (c := ch (t.2.1 + i)) e
          obtain ⟨x, hx⟩ : ∃ x, x = ch (t.2.1 + i) := ⟨_, rfl⟩
          rw [← hx] at sg rc nx cA cB
          clear ih
          refine g_iload_n lk_60_38 rfl ?_
          refine g_aload_n lk_60_39 rfl ?_
          refine m_getfield (u := []) (M := K) lk_60_40 rfl (layK.on (by decide) rfl) (v := (z : Int)) f12K ?_
          refine g_icmp (t := 93) lk_60_43 rfl (by first | (unfold pm_inI; omega) | exact pm_and_in _ _ | exact pm_shr_in _ _ | exact pm_or_in _ _ | exact pm_xor_in _ _ | exact pm_shl_in _ _ | exact pm_cmp_in _ _ | exact pm_b8_in _ | (unfold pm_inI; split <;> omega)) (by first | (unfold pm_inI; omega) | exact pm_and_in _ _ | exact pm_shr_in _ _ | exact pm_or_in _ _ | exact pm_xor_in _ _ | exact pm_shl_in _ _ | exact pm_cmp_in _ _ | exact pm_b8_in _ | (unfold pm_inI; split <;> omega)) (fun h1 => ?_) (fun h1 => ?_)
          · replace h1 : (z : Int) ≤ (i : Int) := h1
            omega
          · replace h1 : ¬ ((z : Int) ≤ (i : Int)) := h1
            refine g_iload_n lk_60_46 rfl ?_
            refine g_bipush lk_60_47 ?_
            refine g_icmp (t := 93) lk_60_49 rfl (by first | (unfold pm_inI; omega) | exact pm_and_in _ _ | exact pm_shr_in _ _ | exact pm_or_in _ _ | exact pm_xor_in _ _ | exact pm_shl_in _ _ | exact pm_cmp_in _ _ | exact pm_b8_in _ | (unfold pm_inI; split <;> omega)) (by first | (unfold pm_inI; omega) | exact pm_and_in _ _ | exact pm_shr_in _ _ | exact pm_or_in _ _ | exact pm_xor_in _ _ | exact pm_shl_in _ _ | exact pm_cmp_in _ _ | exact pm_b8_in _ | (unfold pm_inI; split <;> omega)) (fun h2 => ?_) (fun h2 => ?_)
            · replace h2 : 6 ≤ (i : Int) := h2
              omega
            · replace h2 : ¬ (6 ≤ (i : Int)) := h2
              refine g_aload_n lk_60_52 rfl ?_
              refine g_iload_n lk_60_53 rfl ?_
              refine g_virtual (p := 2) (Qc := _) lk_60_54 rfl (Nat.le_of_ble_eq_true rfl) rfl rfl (layK.on (by decide) rfl) (Nat.le_of_ble_eq_true rfl) (Nat.le_of_ble_eq_true rfl) (Nat.zero_le _) (Nat.zero_le _) (sg) ?_
              rintro _ N3 ⟨rfl, hN3⟩
              rw [hN3]
              show Wp _ 60 57 [(2, ((2 : Nat) : Int)), (0, (r : Int)), (0, (i : Int)), v3] [(0, (x : Int))] K _ _ _
              refine g_istore_n (ls' := [(2, ((2 : Nat) : Int)), (0, (r : Int)), (0, (i : Int)), (0, (x : Int))]) lk_60_57 rfl rfl ?_
              refine g_aload_n lk_60_58 rfl ?_
              refine g_getfield lk_60_59 rfl (layK.on (by decide) rfl) (v := ((4 : Nat) : Int)) (layK.rf rfl) ?_
              refine g_getfield lk_60_62 rfl (layK.on (by decide) rfl) (v := ((5 : Nat) : Int)) (layK.rf rfl) ?_
              refine g_iload_n lk_60_65 rfl ?_
              refine g_bipush lk_60_66 ?_
              refine g_imul lk_60_68 ?_
              refine g_iload_n lk_60_69 rfl ?_
              refine g_iadd lk_60_70 ?_
              refine g_top (z := (((r : Int) * 6) + (i : Int))) (z' := ((6 * r + i : Nat) : Int)) (ix) ?_
              refine g_iload_n lk_60_71 rfl ?_
              refine g_bipush lk_60_72 ?_
              refine g_icmp (t := 82) lk_60_74 rfl (by first | (unfold pm_inI; omega) | exact pm_and_in _ _ | exact pm_shr_in _ _ | exact pm_or_in _ _ | exact pm_xor_in _ _ | exact pm_shl_in _ _ | exact pm_cmp_in _ _ | exact pm_b8_in _ | (unfold pm_inI; split <;> omega)) (by first | (unfold pm_inI; omega) | exact pm_and_in _ _ | exact pm_shr_in _ _ | exact pm_or_in _ _ | exact pm_xor_in _ _ | exact pm_shl_in _ _ | exact pm_cmp_in _ _ | exact pm_b8_in _ | (unfold pm_inI; split <;> omega)) (fun h4 => ?_) (fun h4 => ?_)
              · replace h4 : ¬ (x : Int) = 46 := h4
                refine g_iload_n lk_60_82 rfl ?_
                refine g_bipush lk_60_83 ?_
                refine g_isub lk_60_85 ?_
                have lay5 : Lay (Mu [(5, pm_upd (pm_ct K 5) (6 * r + i : Nat) ((x : Int) - 48))] K) := layK.muA (l := []) (a := 5) (f := pm_upd (pm_ct K 5) (6 * r + i : Nat) ((x : Int) - 48)) rfl rfl
                refine m_iastore (u := []) (u' := [(5, pm_upd (pm_ct K 5) (6 * r + i : Nat) ((x : Int) - 48))]) (M := K) lk_60_86 (layK.ay (by decide) rfl) (by omega) (j := (6 * r + i : Nat)) (by omega) rfl ?_
                refine g_iinc (ls' := [(2, ((2 : Nat) : Int)), (0, (r : Int)), (0, ((i : Int) + 1)), (0, (x : Int))]) lk_60_87 rfl rfl rfl ?_
                refine g_goto (t := 38) lk_60_90 rfl ?_
                exact nx _ _ (Mu [(5, pm_upd (pm_ct K 5) (6 * r + i : Nat) ((x : Int) - 48))] K) (by first | exact cA (by omega) | exact cB (by omega)) lay5 (Fr.mu _ _ rfl) (by rw [Mu_ct]; rfl) (by rw [Mu_ct]; rfl)
              · replace h4 : ¬ (¬ (x : Int) = 46) := h4
                refine g_bipush lk_60_77 ?_
                refine g_goto (t := 86) lk_60_79 rfl ?_
                have lay6 : Lay (Mu [(5, pm_upd (pm_ct K 5) (6 * r + i : Nat) 10)] K) := layK.muA (l := []) (a := 5) (f := pm_upd (pm_ct K 5) (6 * r + i : Nat) 10) rfl rfl
                refine m_iastore (u := []) (u' := [(5, pm_upd (pm_ct K 5) (6 * r + i : Nat) 10)]) (M := K) lk_60_86 (layK.ay (by decide) rfl) (by omega) (j := (6 * r + i : Nat)) (by omega) rfl ?_
                refine g_iinc (ls' := [(2, ((2 : Nat) : Int)), (0, (r : Int)), (0, ((i : Int) + 1)), (0, (x : Int))]) lk_60_87 rfl rfl rfl ?_
                refine g_goto (t := 38) lk_60_90 rfl ?_
                exact nx _ _ (Mu [(5, pm_upd (pm_ct K 5) (6 * r + i : Nat) 10)] K) (by first | exact cA (by omega) | exact cB (by omega)) lay6 (Fr.mu _ _ rfl) (by rw [Mu_ct]; rfl) (by rw [Mu_ct]; rfl)
      have x0 : ∀ j, j < 36 → pm_ct M 5 j = (rowX ch T.2.2.1 r t.2.1 0 j : Int) := fun j hj => by rw [rowX_zero]; exact hB.2.2.2.2 j hj
      refine g_iload_n lk_60_0 rfl ?_
      refine g_if (t := 24) lk_60_1 rfl (by first | (unfold pm_inI; omega) | exact pm_and_in _ _ | exact pm_shr_in _ _ | exact pm_or_in _ _ | exact pm_xor_in _ _ | exact pm_shl_in _ _ | exact pm_cmp_in _ _ | exact pm_b8_in _ | (unfold pm_inI; split <;> omega)) (fun h1 => ?_) (fun h1 => ?_)
      · replace h1 : (r : Int) ≤ 0 := h1
        refine g_iload_n lk_60_24 rfl ?_
        refine g_bipush lk_60_25 ?_
        refine g_icmp (t := 36) lk_60_27 rfl (by first | (unfold pm_inI; omega) | exact pm_and_in _ _ | exact pm_shr_in _ _ | exact pm_or_in _ _ | exact pm_xor_in _ _ | exact pm_shl_in _ _ | exact pm_cmp_in _ _ | exact pm_b8_in _ | (unfold pm_inI; split <;> omega)) (by first | (unfold pm_inI; omega) | exact pm_and_in _ _ | exact pm_shr_in _ _ | exact pm_or_in _ _ | exact pm_xor_in _ _ | exact pm_shl_in _ _ | exact pm_cmp_in _ _ | exact pm_b8_in _ | (unfold pm_inI; split <;> omega)) (fun h2 => ?_) (fun h2 => ?_)
        · replace h2 : (r : Int) < 6 := h2
          refine g_iconst lk_60_36 ?_
          refine g_istore_n (ls' := [(2, ((2 : Nat) : Int)), (0, (r : Int)), (0, 0), (9, 0)]) lk_60_37 rfl rfl ?_
          exact loop z 0 _ M (by omega) lay (Fr.refl _ _) rfl x0
        · replace h2 : ¬ ((r : Int) < 6) := h2
          omega
      · replace h1 : ¬ ((r : Int) ≤ 0) := h1
        refine g_aload_n lk_60_4 rfl ?_
        refine m_getfield (u := []) (M := M) lk_60_5 rfl (lay.on (by decide) rfl) (v := (z : Int)) f12 ?_
        refine g_aload_n lk_60_8 rfl ?_
        refine g_getfield lk_60_9 rfl (lay.on (by decide) rfl) (v := ((4 : Nat) : Int)) (lay.rf rfl) ?_
        refine m_getfield (u := []) (M := M) lk_60_12 rfl (lay.on (by decide) rfl) (v := (C : Int)) fc ?_
        refine g_icmp (t := 24) lk_60_15 rfl (by first | (unfold pm_inI; omega) | exact pm_and_in _ _ | exact pm_shr_in _ _ | exact pm_or_in _ _ | exact pm_xor_in _ _ | exact pm_shl_in _ _ | exact pm_cmp_in _ _ | exact pm_b8_in _ | (unfold pm_inI; split <;> omega)) (by first | (unfold pm_inI; omega) | exact pm_and_in _ _ | exact pm_shr_in _ _ | exact pm_or_in _ _ | exact pm_xor_in _ _ | exact pm_shl_in _ _ | exact pm_cmp_in _ _ | exact pm_b8_in _ | (unfold pm_inI; split <;> omega)) (fun h3 => ?_) (fun h3 => ?_)
        · replace h3 : (z : Int) = (C : Int) := h3
          refine g_iload_n lk_60_24 rfl ?_
          refine g_bipush lk_60_25 ?_
          refine g_icmp (t := 36) lk_60_27 rfl (by first | (unfold pm_inI; omega) | exact pm_and_in _ _ | exact pm_shr_in _ _ | exact pm_or_in _ _ | exact pm_xor_in _ _ | exact pm_shl_in _ _ | exact pm_cmp_in _ _ | exact pm_b8_in _ | (unfold pm_inI; split <;> omega)) (by first | (unfold pm_inI; omega) | exact pm_and_in _ _ | exact pm_shr_in _ _ | exact pm_or_in _ _ | exact pm_xor_in _ _ | exact pm_shl_in _ _ | exact pm_cmp_in _ _ | exact pm_b8_in _ | (unfold pm_inI; split <;> omega)) (fun h4 => ?_) (fun h4 => ?_)
          · replace h4 : (r : Int) < 6 := h4
            refine g_iconst lk_60_36 ?_
            refine g_istore_n (ls' := [(2, ((2 : Nat) : Int)), (0, (r : Int)), (0, 0), (9, 0)]) lk_60_37 rfl rfl ?_
            exact loop z 0 _ M (by omega) lay (Fr.refl _ _) rfl x0
          · replace h4 : ¬ ((r : Int) < 6) := h4
            omega
        · replace h3 : ¬ ((z : Int) = (C : Int)) := h3
          omega
