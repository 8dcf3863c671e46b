/-! ===== the model: the set told ===== -/
def pbv (h its asked x1 x2 : Nat) : Nat := if h = 0 then its + max x1 x2 else if h = 1 then x1 + x2 else its * asked + x1 + x2
theorem c_Mo_partedBy {d mc ms : Nat} {M : pm_M} (lay : Lay M) {h w K1 K2 its asked x1 x2 : Nat} (hh : h < 3) (hw : w < 3) (k1 : K1 < 4096) (k2 : K2 < 4096) (r1 : pm_ct M 142 (4096 * h + K1) = (x1 : Int)) (r2 : pm_ct M 142 (4096 * h + K2) = (x2 : Int)) (b1 : x1 ≤ 1000400) (b2 : x2 ≤ 1000400) (hits : pm_ct M 120 w = (its : Int)) (i9 : its ≤ 9) (ha : asked ≤ 36) :
    pm_E (d + 1) 242 [(2, ((116 : Nat) : Int)), (0, (h : Int)), (0, (w : Int)), (0, (K1 : Int)), (0, (K2 : Int)), (0, (asked : Int))] M mc ms (fun ρ M' => ρ = some (0, (pbv h its asked x1 x2 : Int)) ∧ M' = M) := by
  obtain ⟨j1, hj1⟩ : ∃ j, j = 4096 * h + K1 := ⟨_, rfl⟩
  obtain ⟨j2, hj2⟩ : ∃ j, j = 4096 * h + K2 := ⟨_, rfl⟩
  rw [← hj1] at r1
  rw [← hj2] at r2
  have e1 : (4096 : Int) * (h : Int) + (K1 : Int) = (j1 : Int) := by omega
  have e2 : (4096 : Int) * (h : Int) + (K2 : Int) = (j2 : Int) := by omega
  have pr : its * asked ≤ 9 * 36 := Nat.mul_le_mul i9 ha
  obtain ⟨m, hm⟩ : ∃ m, m = its * asked := ⟨_, rfl⟩
  have em : (its : Int) * (asked : Int) = (m : Int) := by rw [hm]; exact (Int.natCast_mul _ _).symm
  show Wp (d + 1) 242 0 [(2, ((116 : Nat) : Int)), (0, (h : Int)), (0, (w : Int)), (0, (K1 : Int)), (0, (K2 : Int)), (0, (asked : Int)), (9, 0), (9, 0)] [] M mc ms _
  refine g_aload_n lk_242_0 rfl ?_
  refine g_getfield lk_242_1 rfl (lay.on (by decide) rfl) (v := ((142 : Nat) : Int)) (lay.rf rfl) ?_
  refine g_sipush lk_242_4 ?_
  refine g_iload_n lk_242_7 rfl ?_
  refine g_imul lk_242_8 ?_
  refine g_iload_n lk_242_9 rfl ?_
  refine g_iadd lk_242_10 ?_
  refine g_top (z := ((4096 * (h : Int)) + (K1 : Int))) (z' := (j1 : Int)) (e1) ?_
  refine m_iaload (u := []) (M := M) lk_242_11 (lay.ay (by decide) rfl) (by omega) (j := j1) (by omega) (v := (x1 : Int)) r1 ?_
  refine g_istore (ls' := [(2, ((116 : Nat) : Int)), (0, (h : Int)), (0, (w : Int)), (0, (K1 : Int)), (0, (K2 : Int)), (0, (asked : Int)), (0, (x1 : Int)), (9, 0)]) lk_242_12 rfl rfl ?_
  refine g_aload_n lk_242_14 rfl ?_
  refine g_getfield lk_242_15 rfl (lay.on (by decide) rfl) (v := ((142 : Nat) : Int)) (lay.rf rfl) ?_
  refine g_sipush lk_242_18 ?_
  refine g_iload_n lk_242_21 rfl ?_
  refine g_imul lk_242_22 ?_
  refine g_iload lk_242_23 rfl ?_
  refine g_iadd lk_242_25 ?_
  refine g_top (z := ((4096 * (h : Int)) + (K2 : Int))) (z' := (j2 : Int)) (e2) ?_
  refine m_iaload (u := []) (M := M) lk_242_26 (lay.ay (by decide) rfl) (by omega) (j := j2) (by omega) (v := (x2 : Int)) r2 ?_
  refine g_istore (ls' := [(2, ((116 : Nat) : Int)), (0, (h : Int)), (0, (w : Int)), (0, (K1 : Int)), (0, (K2 : Int)), (0, (asked : Int)), (0, (x1 : Int)), (0, (x2 : Int))]) lk_242_27 rfl rfl ?_
  refine g_iload_n lk_242_29 rfl ?_
  refine g_if (t := 50) lk_242_30 rfl (by first | (unfold pm_inI; omega) | (rw [em]; unfold pm_inI; omega)) (fun h1 => ?_) (fun h1 => ?_)
  · replace h1 : ¬ (h : Int) = 0 := h1
    refine g_iload_n lk_242_50 rfl ?_
    refine g_iconst lk_242_51 ?_
    refine g_icmp (t := 63) lk_242_52 rfl (by first | (unfold pm_inI; omega) | (rw [em]; unfold pm_inI; omega)) (by first | (unfold pm_inI; omega) | (rw [em]; unfold pm_inI; omega)) (fun h2 => ?_) (fun h2 => ?_)
    · replace h2 : ¬ (h : Int) = 1 := h2
      refine g_aload_n lk_242_63 rfl ?_
      refine g_getfield lk_242_64 rfl (lay.on (by decide) rfl) (v := ((120 : Nat) : Int)) (lay.rf rfl) ?_
      refine g_iload_n lk_242_67 rfl ?_
      refine m_iaload (u := []) (M := M) lk_242_68 (lay.ay (by decide) rfl) (by omega) (j := w) (by omega) (v := (its : Int)) hits ?_
      refine g_iload lk_242_69 rfl ?_
      refine g_imul lk_242_71 ?_
      refine g_top (z := ((its : Int) * (asked : Int))) (z' := (m : Int)) (em) ?_
      refine g_iload lk_242_72 rfl ?_
      refine g_iadd lk_242_74 ?_
      refine g_iload lk_242_75 rfl ?_
      refine g_iadd lk_242_77 ?_
      refine g_ireturn lk_242_78 (fun h => absurd h (by decide)) ?_
      refine ⟨?_, rfl⟩
      unfold pbv
      rw [if_neg (by omega), if_neg (by omega), ← hm]
      simp
    · replace h2 : ¬ (¬ (h : Int) = 1) := h2
      refine g_iload lk_242_55 rfl ?_
      refine g_iload lk_242_57 rfl ?_
      refine g_iadd lk_242_59 ?_
      refine g_goto (t := 78) lk_242_60 rfl ?_
      refine g_ireturn lk_242_78 (fun h => absurd h (by decide)) ?_
      refine ⟨?_, rfl⟩
      unfold pbv
      rw [if_neg (by omega), if_pos (by omega)]
      simp
  · replace h1 : ¬ (¬ (h : Int) = 0) := h1
    refine g_aload_n lk_242_33 rfl ?_
    refine g_getfield lk_242_34 rfl (lay.on (by decide) rfl) (v := ((120 : Nat) : Int)) (lay.rf rfl) ?_
    refine g_iload_n lk_242_37 rfl ?_
    refine m_iaload (u := []) (M := M) lk_242_38 (lay.ay (by decide) rfl) (by omega) (j := w) (by omega) (v := (its : Int)) hits ?_
    refine g_iload lk_242_39 rfl ?_
    refine g_iload lk_242_41 rfl ?_
    refine g_static (Qc := _) lk_242_43 (by decide) rfl (Nat.le_of_ble_eq_true rfl) rfl rfl (Nat.le_of_ble_eq_true rfl) (Nat.le_of_ble_eq_true rfl) (Nat.zero_le _) (Nat.zero_le _) (c_Mo_greater (by unfold pm_inI; omega) (by unfold pm_inI; omega)) ?_
    rintro _ N3 ⟨rfl, hN3⟩
    rw [hN3]
    show Wp _ 242 46 [(2, ((116 : Nat) : Int)), (0, (h : Int)), (0, (w : Int)), (0, (K1 : Int)), (0, (K2 : Int)), (0, (asked : Int)), (0, (x1 : Int)), (0, (x2 : Int))] [(0, (max (x1 : Int) (x2 : Int))), (0, (its : Int))] M _ _ _
    refine g_iadd lk_242_46 ?_
    refine g_goto (t := 78) lk_242_47 rfl ?_
    refine g_ireturn lk_242_78 (fun h => absurd h (by decide)) ?_
    refine ⟨?_, rfl⟩
    unfold pbv
    rw [if_pos (by omega)]
    have em2 : max (x1 : Int) (x2 : Int) = ((max x1 x2 : Nat) : Int) := by omega
    rw [em2]
    simp
theorem pbv_A {T : Tab} {h rs cs q : Nat} (hh : h < 3) : pbv h (tA T) (nA T rs cs) (BW T h q cs) (BW T h (rs - q) cs) = cA T rs cs h q := by
  rcases (by omega : h = 0 ∨ h = 1 ∨ h = 2) with e | e | e
  · subst e; rfl
  · subst e
    show BW T 1 q cs + BW T 1 (rs - q) cs = 0 + (BW T 1 q cs + BW T 1 (rs - q) cs)
    rw [Nat.zero_add]
  · subst e
    show tA T * nA T rs cs + BW T 2 q cs + BW T 2 (rs - q) cs = tA T * nA T rs cs + (BW T 2 q cs + BW T 2 (rs - q) cs)
    rw [Nat.add_assoc]
theorem pbv_B {T : Tab} {h rs cs q : Nat} (hh : h < 3) : pbv h (tB T) (nA T rs cs) (BW T h rs q) (BW T h rs (cs - q)) = cB T rs cs h q := by
  rcases (by omega : h = 0 ∨ h = 1 ∨ h = 2) with e | e | e
  · subst e; rfl
  · subst e
    show BW T 1 rs q + BW T 1 rs (cs - q) = 0 + (BW T 1 rs q + BW T 1 rs (cs - q))
    rw [Nat.zero_add]
  · subst e
    show tB T * nA T rs cs + BW T 2 rs q + BW T 2 rs (cs - q) = tB T * nA T rs cs + (BW T 2 rs q + BW T 2 rs (cs - q))
    rw [Nat.add_assoc]
def sfP (C : Nat → Bool) (f : Nat → Nat) (b q : Nat) : Bool := C q && (f q == b)
def sfA (T : Tab) (h rs cs : Nat) : Nat := fpk (sfP (spC rs) (cA T rs cs h) (BW T h rs cs)) rs 0
def sfB (T : Tab) (h rs cs : Nat) : Nat := fpk (sfP (spC cs) (cB T rs cs h) (BW T h rs cs)) cs 0
theorem fpk_s {P : Nat → Bool} {k q : Nat} (h : P q = false) : fpk P (k + 1) q = fpk P k (q + 1) := by
  show (if P q then q else fpk P k (q + 1)) = _
  rw [if_neg (by rw [h]; simp)]
theorem fpk_h {P : Nat → Bool} {k q : Nat} (h : P q = true) : fpk P (k + 1) q = q := by
  show (if P q then q else fpk P k (q + 1)) = _
  rw [if_pos h]
theorem fpk_none {P : Nat → Bool} : ∀ {k q : Nat}, (∀ j, q ≤ j → j < q + k → P j = false) → fpk P k q = 0
  | 0, _, _ => rfl
  | k + 1, q, h => by
    rw [fpk_s (h q (Nat.le_refl _) (by omega))]
    exact fpk_none (fun j a b => h j (by omega) (by omega))
theorem sfA_yes {T : Tab} (hT : TabOK T) {h rs cs : Nat} (hi : inT T rs cs) (hal : ¬ pop (vIn T rs cs) < 2) (hw : wA T h rs cs ≤ wB T h rs cs) : sfA T h rs cs = pA T h rs cs := by
  obtain ⟨h1, h2⟩ := hi.r hT
  have bs := BW_s T h h1 h2 hi.1 hi.2.2.1
  rw [if_neg hal] at bs
  obtain ⟨a1, a2, a3, a4⟩ := pk_is (pick_A hT hi hal hw)
  unfold wA wB at hw
  have e : BW T h rs cs = prc T h (tA T) rs cs + spl (sb h) (fun q => BW T h q cs) rs := by omega
  unfold sfA
  rw [e]
  refine fpk_eq (Nat.zero_le _) (by unfold pA; omega) ?_ (fun j _ hj => ?_)
  · unfold sfP cA pA
    rw [a2, a3]; simp
  · unfold sfP cA
    cases c : spC rs j with
    | false => rfl
    | true =>
      have := a4 j hj c
      simp; omega
theorem sfA_no {T : Tab} (hT : TabOK T) {h rs cs : Nat} (hi : inT T rs cs) (hal : ¬ pop (vIn T rs cs) < 2) (hw : ¬ wA T h rs cs ≤ wB T h rs cs) : sfA T h rs cs = 0 := by
  obtain ⟨h1, h2⟩ := hi.r hT
  have bs := BW_s T h h1 h2 hi.1 hi.2.2.1
  rw [if_neg hal] at bs
  unfold wA wB at hw
  refine fpk_none (fun j _ hj => ?_)
  unfold sfP cA
  cases c : spC rs j with
  | false => rfl
  | true =>
    have := spl_le (b := sb h) (g := fun q => BW T h q cs) (show j < rs by omega) c
    simp; omega
theorem sfB_yes {T : Tab} (hT : TabOK T) {h rs cs : Nat} (hi : inT T rs cs) (hal : ¬ pop (vIn T rs cs) < 2) (hw : ¬ wA T h rs cs ≤ wB T h rs cs) : sfB T h rs cs = pB' T h rs cs := by
  obtain ⟨h1, h2⟩ := hi.r hT
  have bs := BW_s T h h1 h2 hi.1 hi.2.2.1
  rw [if_neg hal] at bs
  obtain ⟨a1, a2, a3, a4⟩ := pk_is (pick_B hT hi hal hw)
  unfold wA wB at hw
  have e : BW T h rs cs = prc T h (tB T) rs cs + spl (sb h) (fun q => BW T h rs q) cs := by omega
  unfold sfB
  rw [e]
  refine fpk_eq (Nat.zero_le _) (by unfold pB'; omega) ?_ (fun j _ hj => ?_)
  · unfold sfP cB pB'
    rw [a2, a3]; simp
  · unfold sfP cB
    cases c : spC cs j with
    | false => rfl
    | true =>
      have := a4 j hj c
      simp; omega
set_option maxHeartbeats 4000000 in
theorem c_Mo_setFor1 {d mc ms : Nat} {M : pm_M} (lay0 : Lay M) {T : Tab} (hT : TabOK T) (hM0 : MoAt M T) (hL : LdOK M T) {h rs cs : Nat} (hh : h < 3) (hi : inT T rs cs) :
    pm_E (d + 3) 243 [(2, ((116 : Nat) : Int)), (0, (h : Int)), (0, 1), (0, (rs : Int)), (0, (cs : Int))] M mc ms (fun ρ M' => ρ = some (0, (sfA T h rs cs : Int)) ∧ M' = M) := by
  obtain ⟨Q, hQ⟩ : ∃ Q : pm_Q, Q = (fun ρ M' => ρ = some (0, (sfA T h rs cs : Int)) ∧ M' = M) := ⟨_, rfl⟩
  rw [← hQ]
  obtain ⟨r64, c64⟩ := hi.r hT
  have a36 := nA_36 hT rs cs
  have ca := hT.2.2.2.1
  have cb := hT.2.2.2.2
  have r1 := hi.1
  have c1 := hi.2.2.1
  have b0 := BW_small hT h hi.1 hi.2.1 hi.2.2.1 hi.2.2.2
  have rd := (hL _ _ hi).2.1 h hh
  obtain ⟨j0, hj0⟩ : ∃ j, j = 4096 * h + (64 * rs + cs) := ⟨_, rfl⟩
  rw [← hj0] at rd
  replace rd : pm_ct M 142 j0 = (BW T h rs cs : Int) := rd
  have e0 : (4096 : Int) * (h : Int) + ((64 * rs + cs : Nat) : Int) = (j0 : Int) := by omega
  have q0 := (lw_tab ⟨rs, r64⟩ (by show rs ≠ 0; omega)).1
  replace q0 : pm_and (rs : Int) (-(rs : Int)) = ((lw rs : Nat) : Int) := q0
  have loop : ∀ (m p : Nat) (v8 v9 : pm_V), p + m = rs → 1 ≤ p → sfA T h rs cs = fpk (sfP (spC rs) (cA T rs cs h) (BW T h rs cs)) m p → Wp (d + 3) 243 25 [(2, ((116 : Nat) : Int)), (0, (h : Int)), (0, 1), (0, (rs : Int)), (0, (cs : Int)), (0, (rs : Int)), (0, (nA T rs cs : Int)), (0, (p : Int)), v8, v9] [] M mc ms Q := by
    intro m
    induction m with
    | zero =>
      intro p v8 v9 hp p1 hf
      refine g_iload lk_243_25 rfl ?_
      refine g_iload lk_243_27 rfl ?_
      refine g_icmp (t := 153) lk_243_29 rfl (by first | (unfold pm_inI; omega) | exact pm_and_in _ _ | exact pm_shr_in _ _ | exact pm_or_in _ _ | exact pm_xor_in _ _ | exact pm_shl_in _ _ | exact pm_cmp_in _ _ | exact pm_b8_in _ | (unfold pm_inI; split <;> omega)) (by first | (unfold pm_inI; omega) | exact pm_and_in _ _ | exact pm_shr_in _ _ | exact pm_or_in _ _ | exact pm_xor_in _ _ | exact pm_shl_in _ _ | exact pm_cmp_in _ _ | exact pm_b8_in _ | (unfold pm_inI; split <;> omega)) (fun h1 => ?_) (fun h1 => ?_)
      · replace h1 : (rs : Int) ≤ (p : Int) := h1
        refine g_iconst lk_243_153 ?_
        refine g_ireturn lk_243_154 (fun h => absurd h (by decide)) ?_
        rw [hQ]
        exact ⟨by rw [hf]; rfl, rfl⟩
      · replace h1 : ¬ ((rs : Int) ≤ (p : Int)) := h1
        omega
    | succ m ih =>
      intro p v8 v9 hp p1 hf
      obtain ⟨t1, t2, t3⟩ := part_tab ⟨rs, r64⟩ ⟨p, by omega⟩
      replace t1 : decide (pm_and (p : Int) (pm_xor (rs : Int) (-1)) = 0) = Sb p rs := t1
      have t2 : decide (pm_and (p : Int) ((lw rs : Nat) : Int) = 0) = !(p.testBit (fstb rs)) := t2 (show rs ≠ 0 by omega)
      replace t3 : Sb p rs = true → pm_and (rs : Int) (pm_xor (p : Int) (-1)) = ((rs - p : Nat) : Int) := t3
      have mk : ¬ ¬ (pm_and (p : Int) (pm_xor (rs : Int) (-1)) = 0) → ¬ (pm_and (p : Int) ((lw rs : Nat) : Int) = 0) → spC rs p = true := fun x y => by
        unfold spC
        rw [Bool.and_eq_true]
        refine ⟨by rw [← t1]; exact decide_eq_true (Classical.byContradiction x), ?_⟩
        rw [decide_eq_false y] at t2
        exact (Bool.not_eq_false' .. ▸ t2.symm)
      have no : ∀ z8 z9 : pm_V, sfP (spC rs) (cA T rs cs h) (BW T h rs cs) p = false → Wp (d + 3) 243 25 [(2, ((116 : Nat) : Int)), (0, (h : Int)), (0, 1), (0, (rs : Int)), (0, (cs : Int)), (0, (rs : Int)), (0, (nA T rs cs : Int)), (0, ((p + 1 : Nat) : Int)), z8, z9] [] M mc ms Q := fun z8 z9 x =>
        ih (p + 1) z8 z9 (by omega) (by omega) (by rw [hf, fpk_s x])
      have pby : spC rs p = true → cA T rs cs h p ≤ 2001200 ∧ ∀ d, pm_E (d + 1) 242 [(2, ((116 : Nat) : Int)), (0, (h : Int)), (0, 1), (0, ((64 * p + cs : Nat) : Int)), (0, ((64 * (rs - p) + cs : Nat) : Int)), (0, (nA T rs cs : Int))] M 0 0 (fun ρ M' => ρ = some (0, (cA T rs cs h p : Int)) ∧ M' = M) := fun x => by
        obtain ⟨y1, y2, -⟩ := spC_s r64 (by omega) (by omega) x
        have in1 : inT T p cs := ⟨y1, by have := hi.2.1; omega, hi.2.2.1, hi.2.2.2⟩
        have in2 : inT T (rs - p) cs := ⟨y2, by have := hi.2.1; omega, hi.2.2.1, hi.2.2.2⟩
        have k1 := (hL _ _ in1).2.1 h hh
        have k2 := (hL _ _ in2).2.1 h hh
        have b1 := (ArK_bd hT in1).2.1 h
        have b2 := (ArK_bd hT in2).2.1 h
        have pe := pbv_A (T := T) (h := h) (rs := rs) (cs := cs) (q := p) hh
        refine ⟨?_, fun d => ?_⟩
        · rw [← pe]
          have pr : tA T * nA T rs cs ≤ 9 * 36 := Nat.mul_le_mul ca.2 a36
          have q9 := ca.2
          unfold pbv
          dsimp only at b1 b2
          split
          · omega
          · split <;> omega
        · have := c_Mo_partedBy (d := d) (mc := 0) (ms := 0) lay0 (w := 1) hh (by omega) (by omega) (by omega) k1 k2 b1 b2 hM0.2.2.1 ca.2 a36
          rw [pe] at this
          exact this
      refine g_iload lk_243_25 rfl ?_
      refine g_iload lk_243_27 rfl ?_
      refine g_icmp (t := 153) lk_243_29 rfl (by first | (unfold pm_inI; omega) | exact pm_and_in _ _ | (have z := (pby (mk (by assumption) (by assumption))).1; unfold pm_inI; omega)) (by first | (unfold pm_inI; omega) | exact pm_and_in _ _ | (have z := (pby (mk (by assumption) (by assumption))).1; unfold pm_inI; omega)) (fun h1 => ?_) (fun h1 => ?_)
      · replace h1 : (rs : Int) ≤ (p : Int) := h1
        refine g_iconst lk_243_153 ?_
        refine g_ireturn lk_243_154 (fun h => absurd h (by decide)) ?_
        omega
      · replace h1 : ¬ ((rs : Int) ≤ (p : Int)) := h1
        refine g_iload lk_243_32 rfl ?_
        refine g_iload lk_243_34 rfl ?_
        refine g_iconst lk_243_36 ?_
        refine g_ixor lk_243_37 ?_
        refine g_iand lk_243_38 ?_
        refine g_if (t := 147) lk_243_39 rfl (by first | (unfold pm_inI; omega) | exact pm_and_in _ _ | (have z := (pby (mk (by assumption) (by assumption))).1; unfold pm_inI; omega)) (fun h2 => ?_) (fun h2 => ?_)
        · replace h2 : ¬ (pm_and (p : Int) (pm_xor (rs : Int) (-1))) = 0 := h2
          refine g_iinc (ls' := [(2, ((116 : Nat) : Int)), (0, (h : Int)), (0, 1), (0, (rs : Int)), (0, (cs : Int)), (0, (rs : Int)), (0, (nA T rs cs : Int)), (0, ((p : Int) + 1)), v8, v9]) lk_243_147 rfl rfl rfl ?_
          refine g_goto (t := 25) lk_243_150 rfl ?_
          refine no _ _ ?_
          unfold sfP
          cases c : spC rs p with
          | false => rfl
          | true => unfold spC at c; rw [Bool.and_eq_true, ← t1, decide_eq_true_iff] at c; exact absurd c.1 h2
        · replace h2 : ¬ (¬ (pm_and (p : Int) (pm_xor (rs : Int) (-1))) = 0) := h2
          refine g_iload lk_243_42 rfl ?_
          refine g_iload lk_243_44 rfl ?_
          refine g_iload lk_243_46 rfl ?_
          refine g_ineg lk_243_48 ?_
          refine g_iand lk_243_49 ?_
          refine g_top (z := (pm_and (rs : Int) (-(rs : Int)))) (z' := ((lw rs : Nat) : Int)) (q0) ?_
          refine g_iand lk_243_50 ?_
          refine g_if (t := 57) lk_243_51 rfl (by first | (unfold pm_inI; omega) | exact pm_and_in _ _ | (have z := (pby (mk (by assumption) (by assumption))).1; unfold pm_inI; omega)) (fun h3 => ?_) (fun h3 => ?_)
          · replace h3 : ¬ (pm_and (p : Int) ((lw rs : Nat) : Int)) = 0 := h3
            refine g_iload_n lk_243_57 rfl ?_
            refine g_iconst lk_243_58 ?_
            refine g_icmp (t := 72) lk_243_59 rfl (by first | (unfold pm_inI; omega) | exact pm_and_in _ _ | (have z := (pby (mk (by assumption) (by assumption))).1; unfold pm_inI; omega)) (by first | (unfold pm_inI; omega) | exact pm_and_in _ _ | (have z := (pby (mk (by assumption) (by assumption))).1; unfold pm_inI; omega)) (fun h => absurd h (show ¬ (¬ (1 : Int) = (1 : Int)) by omega)) (fun _ => ?_)
            refine g_iload lk_243_62 rfl ?_
            refine g_iload lk_243_64 rfl ?_
            refine g_static (Qc := _) lk_243_66 (by decide) rfl (Nat.le_of_ble_eq_true rfl) rfl rfl (Nat.le_of_ble_eq_true rfl) (Nat.le_of_ble_eq_true rfl) (Nat.zero_le _) (Nat.zero_le _) (c_Mo_areaOf) ?_
            rintro _ N4 ⟨rfl, hN4⟩
            rw [hN4]
            show Wp _ 243 69 [(2, ((116 : Nat) : Int)), (0, (h : Int)), (0, 1), (0, (rs : Int)), (0, (cs : Int)), (0, (rs : Int)), (0, (nA T rs cs : Int)), (0, (p : Int)), v8, v9] [(0, ((64 * p + cs : Nat) : Int))] M _ _ _
            refine g_goto (t := 78) lk_243_69 rfl ?_
            refine g_istore (ls' := [(2, ((116 : Nat) : Int)), (0, (h : Int)), (0, 1), (0, (rs : Int)), (0, (cs : Int)), (0, (rs : Int)), (0, (nA T rs cs : Int)), (0, (p : Int)), (0, ((64 * p + cs : Nat) : Int)), v9]) lk_243_78 rfl rfl ?_
            refine g_iload_n lk_243_80 rfl ?_
            refine g_iconst lk_243_81 ?_
            refine g_icmp (t := 99) lk_243_82 rfl (by first | (unfold pm_inI; omega) | exact pm_and_in _ _ | (have z := (pby (mk (by assumption) (by assumption))).1; unfold pm_inI; omega)) (by first | (unfold pm_inI; omega) | exact pm_and_in _ _ | (have z := (pby (mk (by assumption) (by assumption))).1; unfold pm_inI; omega)) (fun h => absurd h (show ¬ (¬ (1 : Int) = (1 : Int)) by omega)) (fun _ => ?_)
            refine g_iload_n lk_243_85 rfl ?_
            refine g_iload lk_243_86 rfl ?_
            refine g_iconst lk_243_88 ?_
            refine g_ixor lk_243_89 ?_
            refine g_iand lk_243_90 ?_
            refine g_top (z := (pm_and (rs : Int) (pm_xor (p : Int) (-1)))) (z' := ((rs - p : Nat) : Int)) ((t3 (by rw [← t1]; exact decide_eq_true (Classical.byContradiction h2)))) ?_
            refine g_iload lk_243_91 rfl ?_
            refine g_static (Qc := _) lk_243_93 (by decide) rfl (Nat.le_of_ble_eq_true rfl) rfl rfl (Nat.le_of_ble_eq_true rfl) (Nat.le_of_ble_eq_true rfl) (Nat.zero_le _) (Nat.zero_le _) (c_Mo_areaOf) ?_
            rintro _ N5 ⟨rfl, hN5⟩
            rw [hN5]
            show Wp _ 243 96 [(2, ((116 : Nat) : Int)), (0, (h : Int)), (0, 1), (0, (rs : Int)), (0, (cs : Int)), (0, (rs : Int)), (0, (nA T rs cs : Int)), (0, (p : Int)), (0, ((64 * p + cs : Nat) : Int)), v9] [(0, ((64 * (rs - p) + cs : Nat) : Int))] M _ _ _
            refine g_goto (t := 110) lk_243_96 rfl ?_
            refine g_istore (ls' := [(2, ((116 : Nat) : Int)), (0, (h : Int)), (0, 1), (0, (rs : Int)), (0, (cs : Int)), (0, (rs : Int)), (0, (nA T rs cs : Int)), (0, (p : Int)), (0, ((64 * p + cs : Nat) : Int)), (0, ((64 * (rs - p) + cs : Nat) : Int))]) lk_243_110 rfl rfl ?_
            refine g_aload_n lk_243_112 rfl ?_
            refine g_iload_n lk_243_113 rfl ?_
            refine g_iload_n lk_243_114 rfl ?_
            refine g_iload lk_243_115 rfl ?_
            refine g_iload lk_243_117 rfl ?_
            refine g_iload lk_243_119 rfl ?_
            refine g_virtual (p := 116) (Qc := _) lk_243_121 rfl (Nat.le_of_ble_eq_true rfl) rfl rfl (lay0.on (by decide) rfl) (Nat.le_of_ble_eq_true rfl) (Nat.le_of_ble_eq_true rfl) (Nat.zero_le _) (Nat.zero_le _) (((pby (mk h2 h3)).2 (d + 1))) ?_
            rintro _ N6 ⟨rfl, hN6⟩
            rw [hN6]
            show Wp _ 243 124 [(2, ((116 : Nat) : Int)), (0, (h : Int)), (0, 1), (0, (rs : Int)), (0, (cs : Int)), (0, (rs : Int)), (0, (nA T rs cs : Int)), (0, (p : Int)), (0, ((64 * p + cs : Nat) : Int)), (0, ((64 * (rs - p) + cs : Nat) : Int))] [(0, (cA T rs cs h p : Int))] M _ _ _
            refine g_aload_n lk_243_124 rfl ?_
            refine g_getfield lk_243_125 rfl (lay0.on (by decide) rfl) (v := ((142 : Nat) : Int)) (lay0.rf rfl) ?_
            refine g_sipush lk_243_128 ?_
            refine g_iload_n lk_243_131 rfl ?_
            refine g_imul lk_243_132 ?_
            refine g_iload_n lk_243_133 rfl ?_
            refine g_iload lk_243_134 rfl ?_
            refine g_static (Qc := _) lk_243_136 (by decide) rfl (Nat.le_of_ble_eq_true rfl) rfl rfl (Nat.le_of_ble_eq_true rfl) (Nat.le_of_ble_eq_true rfl) (Nat.zero_le _) (Nat.zero_le _) (c_Mo_areaOf) ?_
            rintro _ N7 ⟨rfl, hN7⟩
            rw [hN7]
            show Wp _ 243 139 [(2, ((116 : Nat) : Int)), (0, (h : Int)), (0, 1), (0, (rs : Int)), (0, (cs : Int)), (0, (rs : Int)), (0, (nA T rs cs : Int)), (0, (p : Int)), (0, ((64 * p + cs : Nat) : Int)), (0, ((64 * (rs - p) + cs : Nat) : Int))] [(0, ((64 * rs + cs : Nat) : Int)), (0, (4096 * (h : Int))), (2, ((142 : Nat) : Int)), (0, (cA T rs cs h p : Int))] M _ _ _
            refine g_iadd lk_243_139 ?_
            refine g_top (z := ((4096 * (h : Int)) + ((64 * rs + cs : Nat) : Int))) (z' := (j0 : Int)) (e0) ?_
            refine m_iaload (u := []) (M := M) lk_243_140 (lay0.ay (by decide) rfl) (by omega) (j := j0) (by omega) (v := (BW T h rs cs : Int)) rd ?_
            refine g_icmp (t := 147) lk_243_141 rfl (by first | (unfold pm_inI; omega) | exact pm_and_in _ _ | (have z := (pby (mk (by assumption) (by assumption))).1; unfold pm_inI; omega)) (by first | (unfold pm_inI; omega) | exact pm_and_in _ _ | (have z := (pby (mk (by assumption) (by assumption))).1; unfold pm_inI; omega)) (fun h8 => ?_) (fun h8 => ?_)
            · replace h8 : ¬ (cA T rs cs h p : Int) = (BW T h rs cs : Int) := h8
              refine g_iinc (ls' := [(2, ((116 : Nat) : Int)), (0, (h : Int)), (0, 1), (0, (rs : Int)), (0, (cs : Int)), (0, (rs : Int)), (0, (nA T rs cs : Int)), (0, ((p : Int) + 1)), (0, ((64 * p + cs : Nat) : Int)), (0, ((64 * (rs - p) + cs : Nat) : Int))]) lk_243_147 rfl rfl rfl ?_
              refine g_goto (t := 25) lk_243_150 rfl ?_
              refine no _ _ ?_
              unfold sfP
              rw [Bool.and_eq_false_iff]
              refine Or.inr ?_
              rw [beq_eq_false_iff_ne]
              omega
            · replace h8 : ¬ (¬ (cA T rs cs h p : Int) = (BW T h rs cs : Int)) := h8
              refine g_iload lk_243_144 rfl ?_
              refine g_ireturn lk_243_146 (fun h => absurd h (by decide)) ?_
              rw [hQ]
              have s1 := mk h2 h3
              refine ⟨?_, rfl⟩
              rw [hf, fpk_h]
              unfold sfP
              rw [s1, Bool.true_and, beq_iff_eq]
              omega
          · replace h3 : ¬ (¬ (pm_and (p : Int) ((lw rs : Nat) : Int)) = 0) := h3
            refine g_goto (t := 147) lk_243_54 rfl ?_
            refine g_iinc (ls' := [(2, ((116 : Nat) : Int)), (0, (h : Int)), (0, 1), (0, (rs : Int)), (0, (cs : Int)), (0, (rs : Int)), (0, (nA T rs cs : Int)), (0, ((p : Int) + 1)), v8, v9]) lk_243_147 rfl rfl rfl ?_
            refine g_goto (t := 25) lk_243_150 rfl ?_
            refine no _ _ ?_
            unfold sfP
            cases c : spC rs p with
            | false => rfl
            | true => unfold spC at c; rw [Bool.and_eq_true] at c; rw [c.2] at t2; exact absurd (Classical.byContradiction h3) (of_decide_eq_false t2)
  have z0 : sfP (spC rs) (cA T rs cs h) (BW T h rs cs) 0 = false := by
    unfold sfP
    rw [sp0 r64 (by omega)]
    rfl
  have st : sfA T h rs cs = fpk (sfP (spC rs) (cA T rs cs h) (BW T h rs cs)) (rs - 1) 1 := by
    unfold sfA
    obtain ⟨n, hn⟩ : ∃ n, rs = n + 1 := ⟨rs - 1, by omega⟩
    have e : ∀ P : Nat → Bool, P 0 = false → fpk P rs 0 = fpk P (rs - 1) 1 := fun P hP => by rw [hn, fpk_s hP]; rfl
    exact e _ z0
  show Wp (d + 3) 243 0 [(2, ((116 : Nat) : Int)), (0, (h : Int)), (0, 1), (0, (rs : Int)), (0, (cs : Int)), (9, 0), (9, 0), (9, 0), (9, 0), (9, 0)] [] M mc ms Q
  refine g_iload_n lk_243_0 rfl ?_
  refine g_iconst lk_243_1 ?_
  refine g_icmp (t := 9) lk_243_2 rfl (by first | (unfold pm_inI; omega) | exact pm_and_in _ _ | exact pm_shr_in _ _ | exact pm_or_in _ _ | exact pm_xor_in _ _ | exact pm_shl_in _ _ | exact pm_cmp_in _ _ | exact pm_b8_in _ | (unfold pm_inI; split <;> omega)) (by first | (unfold pm_inI; omega) | exact pm_and_in _ _ | exact pm_shr_in _ _ | exact pm_or_in _ _ | exact pm_xor_in _ _ | exact pm_shl_in _ _ | exact pm_cmp_in _ _ | exact pm_b8_in _ | (unfold pm_inI; split <;> omega)) (fun h => absurd h (show ¬ (¬ (1 : Int) = (1 : Int)) by omega)) (fun _ => ?_)
  refine g_iload_n lk_243_5 rfl ?_
  refine g_goto (t := 11) lk_243_6 rfl ?_
  refine g_istore (ls' := [(2, ((116 : Nat) : Int)), (0, (h : Int)), (0, 1), (0, (rs : Int)), (0, (cs : Int)), (0, (rs : Int)), (9, 0), (9, 0), (9, 0), (9, 0)]) lk_243_11 rfl rfl ?_
  refine g_aload_n lk_243_13 rfl ?_
  refine g_iload_n lk_243_14 rfl ?_
  refine g_iload lk_243_15 rfl ?_
  refine g_virtual (p := 116) (Qc := _) lk_243_17 rfl (Nat.le_of_ble_eq_true rfl) rfl rfl (lay0.on (by decide) rfl) (Nat.le_of_ble_eq_true rfl) (Nat.le_of_ble_eq_true rfl) (Nat.zero_le _) (Nat.zero_le _) (c_Mo_askedA lay0 hT hM0 hi.2.1 hi.2.2.2) ?_
  rintro _ N1 ⟨rfl, hN1⟩
  rw [hN1]
  show Wp _ 243 20 [(2, ((116 : Nat) : Int)), (0, (h : Int)), (0, 1), (0, (rs : Int)), (0, (cs : Int)), (0, (rs : Int)), (9, 0), (9, 0), (9, 0), (9, 0)] [(0, (nA T rs cs : Int))] M _ _ _
  refine g_istore (ls' := [(2, ((116 : Nat) : Int)), (0, (h : Int)), (0, 1), (0, (rs : Int)), (0, (cs : Int)), (0, (rs : Int)), (0, (nA T rs cs : Int)), (9, 0), (9, 0), (9, 0)]) lk_243_20 rfl rfl ?_
  refine g_iconst lk_243_22 ?_
  refine g_istore (ls' := [(2, ((116 : Nat) : Int)), (0, (h : Int)), (0, 1), (0, (rs : Int)), (0, (cs : Int)), (0, (rs : Int)), (0, (nA T rs cs : Int)), (0, 1), (9, 0), (9, 0)]) lk_243_23 rfl rfl ?_
  exact loop (rs - 1) 1 _ _ (by omega) (by omega) st
set_option maxHeartbeats 4000000 in
theorem c_Mo_setFor2 {d mc ms : Nat} {M : pm_M} (lay0 : Lay M) {T : Tab} (hT : TabOK T) (hM0 : MoAt M T) (hL : LdOK M T) {h rs cs : Nat} (hh : h < 3) (hi : inT T rs cs) :
    pm_E (d + 3) 243 [(2, ((116 : Nat) : Int)), (0, (h : Int)), (0, 2), (0, (rs : Int)), (0, (cs : Int))] M mc ms (fun ρ M' => ρ = some (0, (sfB T h rs cs : Int)) ∧ M' = M) := by
  obtain ⟨Q, hQ⟩ : ∃ Q : pm_Q, Q = (fun ρ M' => ρ = some (0, (sfB T h rs cs : Int)) ∧ M' = M) := ⟨_, rfl⟩
  rw [← hQ]
  obtain ⟨r64, c64⟩ := hi.r hT
  have a36 := nA_36 hT rs cs
  have ca := hT.2.2.2.1
  have cb := hT.2.2.2.2
  have r1 := hi.1
  have c1 := hi.2.2.1
  have b0 := BW_small hT h hi.1 hi.2.1 hi.2.2.1 hi.2.2.2
  have rd := (hL _ _ hi).2.1 h hh
  obtain ⟨j0, hj0⟩ : ∃ j, j = 4096 * h + (64 * rs + cs) := ⟨_, rfl⟩
  rw [← hj0] at rd
  replace rd : pm_ct M 142 j0 = (BW T h rs cs : Int) := rd
  have e0 : (4096 : Int) * (h : Int) + ((64 * rs + cs : Nat) : Int) = (j0 : Int) := by omega
  have q0 := (lw_tab ⟨cs, c64⟩ (by show cs ≠ 0; omega)).1
  replace q0 : pm_and (cs : Int) (-(cs : Int)) = ((lw cs : Nat) : Int) := q0
  have loop : ∀ (m p : Nat) (v8 v9 : pm_V), p + m = cs → 1 ≤ p → sfB T h rs cs = fpk (sfP (spC cs) (cB T rs cs h) (BW T h rs cs)) m p → Wp (d + 3) 243 25 [(2, ((116 : Nat) : Int)), (0, (h : Int)), (0, 2), (0, (rs : Int)), (0, (cs : Int)), (0, (cs : Int)), (0, (nA T rs cs : Int)), (0, (p : Int)), v8, v9] [] M mc ms Q := by
    intro m
    induction m with
    | zero =>
      intro p v8 v9 hp p1 hf
      refine g_iload lk_243_25 rfl ?_
      refine g_iload lk_243_27 rfl ?_
      refine g_icmp (t := 153) lk_243_29 rfl (by first | (unfold pm_inI; omega) | exact pm_and_in _ _ | exact pm_shr_in _ _ | exact pm_or_in _ _ | exact pm_xor_in _ _ | exact pm_shl_in _ _ | exact pm_cmp_in _ _ | exact pm_b8_in _ | (unfold pm_inI; split <;> omega)) (by first | (unfold pm_inI; omega) | exact pm_and_in _ _ | exact pm_shr_in _ _ | exact pm_or_in _ _ | exact pm_xor_in _ _ | exact pm_shl_in _ _ | exact pm_cmp_in _ _ | exact pm_b8_in _ | (unfold pm_inI; split <;> omega)) (fun h1 => ?_) (fun h1 => ?_)
      · replace h1 : (cs : Int) ≤ (p : Int) := h1
        refine g_iconst lk_243_153 ?_
        refine g_ireturn lk_243_154 (fun h => absurd h (by decide)) ?_
        rw [hQ]
        exact ⟨by rw [hf]; rfl, rfl⟩
      · replace h1 : ¬ ((cs : Int) ≤ (p : Int)) := h1
        omega
    | succ m ih =>
      intro p v8 v9 hp p1 hf
      obtain ⟨t1, t2, t3⟩ := part_tab ⟨cs, c64⟩ ⟨p, by omega⟩
      replace t1 : decide (pm_and (p : Int) (pm_xor (cs : Int) (-1)) = 0) = Sb p cs := t1
      have t2 : decide (pm_and (p : Int) ((lw cs : Nat) : Int) = 0) = !(p.testBit (fstb cs)) := t2 (show cs ≠ 0 by omega)
      replace t3 : Sb p cs = true → pm_and (cs : Int) (pm_xor (p : Int) (-1)) = ((cs - p : Nat) : Int) := t3
      have mk : ¬ ¬ (pm_and (p : Int) (pm_xor (cs : Int) (-1)) = 0) → ¬ (pm_and (p : Int) ((lw cs : Nat) : Int) = 0) → spC cs p = true := fun x y => by
        unfold spC
        rw [Bool.and_eq_true]
        refine ⟨by rw [← t1]; exact decide_eq_true (Classical.byContradiction x), ?_⟩
        rw [decide_eq_false y] at t2
        exact (Bool.not_eq_false' .. ▸ t2.symm)
      have no : ∀ z8 z9 : pm_V, sfP (spC cs) (cB T rs cs h) (BW T h rs cs) p = false → Wp (d + 3) 243 25 [(2, ((116 : Nat) : Int)), (0, (h : Int)), (0, 2), (0, (rs : Int)), (0, (cs : Int)), (0, (cs : Int)), (0, (nA T rs cs : Int)), (0, ((p + 1 : Nat) : Int)), z8, z9] [] M mc ms Q := fun z8 z9 x =>
        ih (p + 1) z8 z9 (by omega) (by omega) (by rw [hf, fpk_s x])
      have pby : spC cs p = true → cB T rs cs h p ≤ 2001200 ∧ ∀ d, pm_E (d + 1) 242 [(2, ((116 : Nat) : Int)), (0, (h : Int)), (0, 2), (0, ((64 * rs + p : Nat) : Int)), (0, ((64 * rs + (cs - p) : Nat) : Int)), (0, (nA T rs cs : Int))] M 0 0 (fun ρ M' => ρ = some (0, (cB T rs cs h p : Int)) ∧ M' = M) := fun x => by
        obtain ⟨y1, y2, -⟩ := spC_s c64 (by omega) (by omega) x
        have in1 : inT T rs p := ⟨hi.1, hi.2.1, y1, by have := hi.2.2.2; omega⟩
        have in2 : inT T rs (cs - p) := ⟨hi.1, hi.2.1, y2, by have := hi.2.2.2; omega⟩
        have k1 := (hL _ _ in1).2.1 h hh
        have k2 := (hL _ _ in2).2.1 h hh
        have b1 := (ArK_bd hT in1).2.1 h
        have b2 := (ArK_bd hT in2).2.1 h
        have pe := pbv_B (T := T) (h := h) (rs := rs) (cs := cs) (q := p) hh
        refine ⟨?_, fun d => ?_⟩
        · rw [← pe]
          have pr : tB T * nA T rs cs ≤ 9 * 36 := Nat.mul_le_mul cb.2 a36
          have q9 := cb.2
          unfold pbv
          dsimp only at b1 b2
          split
          · omega
          · split <;> omega
        · have := c_Mo_partedBy (d := d) (mc := 0) (ms := 0) lay0 (w := 2) hh (by omega) (by omega) (by omega) k1 k2 b1 b2 hM0.2.2.2.1 cb.2 a36
          rw [pe] at this
          exact this
      refine g_iload lk_243_25 rfl ?_
      refine g_iload lk_243_27 rfl ?_
      refine g_icmp (t := 153) lk_243_29 rfl (by first | (unfold pm_inI; omega) | exact pm_and_in _ _ | (have z := (pby (mk (by assumption) (by assumption))).1; unfold pm_inI; omega)) (by first | (unfold pm_inI; omega) | exact pm_and_in _ _ | (have z := (pby (mk (by assumption) (by assumption))).1; unfold pm_inI; omega)) (fun h1 => ?_) (fun h1 => ?_)
      · replace h1 : (cs : Int) ≤ (p : Int) := h1
        refine g_iconst lk_243_153 ?_
        refine g_ireturn lk_243_154 (fun h => absurd h (by decide)) ?_
        omega
      · replace h1 : ¬ ((cs : Int) ≤ (p : Int)) := h1
        refine g_iload lk_243_32 rfl ?_
        refine g_iload lk_243_34 rfl ?_
        refine g_iconst lk_243_36 ?_
        refine g_ixor lk_243_37 ?_
        refine g_iand lk_243_38 ?_
        refine g_if (t := 147) lk_243_39 rfl (by first | (unfold pm_inI; omega) | exact pm_and_in _ _ | (have z := (pby (mk (by assumption) (by assumption))).1; unfold pm_inI; omega)) (fun h2 => ?_) (fun h2 => ?_)
        · replace h2 : ¬ (pm_and (p : Int) (pm_xor (cs : Int) (-1))) = 0 := h2
          refine g_iinc (ls' := [(2, ((116 : Nat) : Int)), (0, (h : Int)), (0, 2), (0, (rs : Int)), (0, (cs : Int)), (0, (cs : Int)), (0, (nA T rs cs : Int)), (0, ((p : Int) + 1)), v8, v9]) lk_243_147 rfl rfl rfl ?_
          refine g_goto (t := 25) lk_243_150 rfl ?_
          refine no _ _ ?_
          unfold sfP
          cases c : spC cs p with
          | false => rfl
          | true => unfold spC at c; rw [Bool.and_eq_true, ← t1, decide_eq_true_iff] at c; exact absurd c.1 h2
        · replace h2 : ¬ (¬ (pm_and (p : Int) (pm_xor (cs : Int) (-1))) = 0) := h2
          refine g_iload lk_243_42 rfl ?_
          refine g_iload lk_243_44 rfl ?_
          refine g_iload lk_243_46 rfl ?_
          refine g_ineg lk_243_48 ?_
          refine g_iand lk_243_49 ?_
          refine g_top (z := (pm_and (cs : Int) (-(cs : Int)))) (z' := ((lw cs : Nat) : Int)) (q0) ?_
          refine g_iand lk_243_50 ?_
          refine g_if (t := 57) lk_243_51 rfl (by first | (unfold pm_inI; omega) | exact pm_and_in _ _ | (have z := (pby (mk (by assumption) (by assumption))).1; unfold pm_inI; omega)) (fun h3 => ?_) (fun h3 => ?_)
          · replace h3 : ¬ (pm_and (p : Int) ((lw cs : Nat) : Int)) = 0 := h3
            refine g_iload_n lk_243_57 rfl ?_
            refine g_iconst lk_243_58 ?_
            refine g_icmp (t := 72) lk_243_59 rfl (by first | (unfold pm_inI; omega) | exact pm_and_in _ _ | (have z := (pby (mk (by assumption) (by assumption))).1; unfold pm_inI; omega)) (by first | (unfold pm_inI; omega) | exact pm_and_in _ _ | (have z := (pby (mk (by assumption) (by assumption))).1; unfold pm_inI; omega)) (fun _ => ?_) (fun h => absurd (show ¬ (2 : Int) = (1 : Int) by omega) h)
            refine g_iload_n lk_243_72 rfl ?_
            refine g_iload lk_243_73 rfl ?_
            refine g_static (Qc := _) lk_243_75 (by decide) rfl (Nat.le_of_ble_eq_true rfl) rfl rfl (Nat.le_of_ble_eq_true rfl) (Nat.le_of_ble_eq_true rfl) (Nat.zero_le _) (Nat.zero_le _) (c_Mo_areaOf) ?_
            rintro _ N4 ⟨rfl, hN4⟩
            rw [hN4]
            show Wp _ 243 78 [(2, ((116 : Nat) : Int)), (0, (h : Int)), (0, 2), (0, (rs : Int)), (0, (cs : Int)), (0, (cs : Int)), (0, (nA T rs cs : Int)), (0, (p : Int)), v8, v9] [(0, ((64 * rs + p : Nat) : Int))] M _ _ _
            refine g_istore (ls' := [(2, ((116 : Nat) : Int)), (0, (h : Int)), (0, 2), (0, (rs : Int)), (0, (cs : Int)), (0, (cs : Int)), (0, (nA T rs cs : Int)), (0, (p : Int)), (0, ((64 * rs + p : Nat) : Int)), v9]) lk_243_78 rfl rfl ?_
            refine g_iload_n lk_243_80 rfl ?_
            refine g_iconst lk_243_81 ?_
            refine g_icmp (t := 99) lk_243_82 rfl (by first | (unfold pm_inI; omega) | exact pm_and_in _ _ | (have z := (pby (mk (by assumption) (by assumption))).1; unfold pm_inI; omega)) (by first | (unfold pm_inI; omega) | exact pm_and_in _ _ | (have z := (pby (mk (by assumption) (by assumption))).1; unfold pm_inI; omega)) (fun _ => ?_) (fun h => absurd (show ¬ (2 : Int) = (1 : Int) by omega) h)
            refine g_iload_n lk_243_99 rfl ?_
            refine g_iload lk_243_100 rfl ?_
            refine g_iload lk_243_102 rfl ?_
            refine g_iconst lk_243_104 ?_
            refine g_ixor lk_243_105 ?_
            refine g_iand lk_243_106 ?_
            refine g_top (z := (pm_and (cs : Int) (pm_xor (p : Int) (-1)))) (z' := ((cs - p : Nat) : Int)) ((t3 (by rw [← t1]; exact decide_eq_true (Classical.byContradiction h2)))) ?_
            refine g_static (Qc := _) lk_243_107 (by decide) rfl (Nat.le_of_ble_eq_true rfl) rfl rfl (Nat.le_of_ble_eq_true rfl) (Nat.le_of_ble_eq_true rfl) (Nat.zero_le _) (Nat.zero_le _) (c_Mo_areaOf) ?_
            rintro _ N5 ⟨rfl, hN5⟩
            rw [hN5]
            show Wp _ 243 110 [(2, ((116 : Nat) : Int)), (0, (h : Int)), (0, 2), (0, (rs : Int)), (0, (cs : Int)), (0, (cs : Int)), (0, (nA T rs cs : Int)), (0, (p : Int)), (0, ((64 * rs + p : Nat) : Int)), v9] [(0, ((64 * rs + (cs - p) : Nat) : Int))] M _ _ _
            refine g_istore (ls' := [(2, ((116 : Nat) : Int)), (0, (h : Int)), (0, 2), (0, (rs : Int)), (0, (cs : Int)), (0, (cs : Int)), (0, (nA T rs cs : Int)), (0, (p : Int)), (0, ((64 * rs + p : Nat) : Int)), (0, ((64 * rs + (cs - p) : Nat) : Int))]) lk_243_110 rfl rfl ?_
            refine g_aload_n lk_243_112 rfl ?_
            refine g_iload_n lk_243_113 rfl ?_
            refine g_iload_n lk_243_114 rfl ?_
            refine g_iload lk_243_115 rfl ?_
            refine g_iload lk_243_117 rfl ?_
            refine g_iload lk_243_119 rfl ?_
            refine g_virtual (p := 116) (Qc := _) lk_243_121 rfl (Nat.le_of_ble_eq_true rfl) rfl rfl (lay0.on (by decide) rfl) (Nat.le_of_ble_eq_true rfl) (Nat.le_of_ble_eq_true rfl) (Nat.zero_le _) (Nat.zero_le _) (((pby (mk h2 h3)).2 (d + 1))) ?_
            rintro _ N6 ⟨rfl, hN6⟩
            rw [hN6]
            show Wp _ 243 124 [(2, ((116 : Nat) : Int)), (0, (h : Int)), (0, 2), (0, (rs : Int)), (0, (cs : Int)), (0, (cs : Int)), (0, (nA T rs cs : Int)), (0, (p : Int)), (0, ((64 * rs + p : Nat) : Int)), (0, ((64 * rs + (cs - p) : Nat) : Int))] [(0, (cB T rs cs h p : Int))] M _ _ _
            refine g_aload_n lk_243_124 rfl ?_
            refine g_getfield lk_243_125 rfl (lay0.on (by decide) rfl) (v := ((142 : Nat) : Int)) (lay0.rf rfl) ?_
            refine g_sipush lk_243_128 ?_
            refine g_iload_n lk_243_131 rfl ?_
            refine g_imul lk_243_132 ?_
            refine g_iload_n lk_243_133 rfl ?_
            refine g_iload lk_243_134 rfl ?_
            refine g_static (Qc := _) lk_243_136 (by decide) rfl (Nat.le_of_ble_eq_true rfl) rfl rfl (Nat.le_of_ble_eq_true rfl) (Nat.le_of_ble_eq_true rfl) (Nat.zero_le _) (Nat.zero_le _) (c_Mo_areaOf) ?_
            rintro _ N7 ⟨rfl, hN7⟩
            rw [hN7]
            show Wp _ 243 139 [(2, ((116 : Nat) : Int)), (0, (h : Int)), (0, 2), (0, (rs : Int)), (0, (cs : Int)), (0, (cs : Int)), (0, (nA T rs cs : Int)), (0, (p : Int)), (0, ((64 * rs + p : Nat) : Int)), (0, ((64 * rs + (cs - p) : Nat) : Int))] [(0, ((64 * rs + cs : Nat) : Int)), (0, (4096 * (h : Int))), (2, ((142 : Nat) : Int)), (0, (cB T rs cs h p : Int))] M _ _ _
            refine g_iadd lk_243_139 ?_
            refine g_top (z := ((4096 * (h : Int)) + ((64 * rs + cs : Nat) : Int))) (z' := (j0 : Int)) (e0) ?_
            refine m_iaload (u := []) (M := M) lk_243_140 (lay0.ay (by decide) rfl) (by omega) (j := j0) (by omega) (v := (BW T h rs cs : Int)) rd ?_
            refine g_icmp (t := 147) lk_243_141 rfl (by first | (unfold pm_inI; omega) | exact pm_and_in _ _ | (have z := (pby (mk (by assumption) (by assumption))).1; unfold pm_inI; omega)) (by first | (unfold pm_inI; omega) | exact pm_and_in _ _ | (have z := (pby (mk (by assumption) (by assumption))).1; unfold pm_inI; omega)) (fun h8 => ?_) (fun h8 => ?_)
            · replace h8 : ¬ (cB T rs cs h p : Int) = (BW T h rs cs : Int) := h8
              refine g_iinc (ls' := [(2, ((116 : Nat) : Int)), (0, (h : Int)), (0, 2), (0, (rs : Int)), (0, (cs : Int)), (0, (cs : Int)), (0, (nA T rs cs : Int)), (0, ((p : Int) + 1)), (0, ((64 * rs + p : Nat) : Int)), (0, ((64 * rs + (cs - p) : Nat) : Int))]) lk_243_147 rfl rfl rfl ?_
              refine g_goto (t := 25) lk_243_150 rfl ?_
              refine no _ _ ?_
              unfold sfP
              rw [Bool.and_eq_false_iff]
              refine Or.inr ?_
              rw [beq_eq_false_iff_ne]
              omega
            · replace h8 : ¬ (¬ (cB T rs cs h p : Int) = (BW T h rs cs : Int)) := h8
              refine g_iload lk_243_144 rfl ?_
              refine g_ireturn lk_243_146 (fun h => absurd h (by decide)) ?_
              rw [hQ]
              have s1 := mk h2 h3
              refine ⟨?_, rfl⟩
              rw [hf, fpk_h]
              unfold sfP
              rw [s1, Bool.true_and, beq_iff_eq]
              omega
          · replace h3 : ¬ (¬ (pm_and (p : Int) ((lw cs : Nat) : Int)) = 0) := h3
            refine g_goto (t := 147) lk_243_54 rfl ?_
            refine g_iinc (ls' := [(2, ((116 : Nat) : Int)), (0, (h : Int)), (0, 2), (0, (rs : Int)), (0, (cs : Int)), (0, (cs : Int)), (0, (nA T rs cs : Int)), (0, ((p : Int) + 1)), v8, v9]) lk_243_147 rfl rfl rfl ?_
            refine g_goto (t := 25) lk_243_150 rfl ?_
            refine no _ _ ?_
            unfold sfP
            cases c : spC cs p with
            | false => rfl
            | true => unfold spC at c; rw [Bool.and_eq_true] at c; rw [c.2] at t2; exact absurd (Classical.byContradiction h3) (of_decide_eq_false t2)
  have z0 : sfP (spC cs) (cB T rs cs h) (BW T h rs cs) 0 = false := by
    unfold sfP
    rw [sp0 c64 (by omega)]
    rfl
  have st : sfB T h rs cs = fpk (sfP (spC cs) (cB T rs cs h) (BW T h rs cs)) (cs - 1) 1 := by
    unfold sfB
    obtain ⟨n, hn⟩ : ∃ n, cs = n + 1 := ⟨cs - 1, by omega⟩
    have e : ∀ P : Nat → Bool, P 0 = false → fpk P cs 0 = fpk P (cs - 1) 1 := fun P hP => by rw [hn, fpk_s hP]; rfl
    exact e _ z0
  show Wp (d + 3) 243 0 [(2, ((116 : Nat) : Int)), (0, (h : Int)), (0, 2), (0, (rs : Int)), (0, (cs : Int)), (9, 0), (9, 0), (9, 0), (9, 0), (9, 0)] [] M mc ms Q
  refine g_iload_n lk_243_0 rfl ?_
  refine g_iconst lk_243_1 ?_
  refine g_icmp (t := 9) lk_243_2 rfl (by first | (unfold pm_inI; omega) | exact pm_and_in _ _ | exact pm_shr_in _ _ | exact pm_or_in _ _ | exact pm_xor_in _ _ | exact pm_shl_in _ _ | exact pm_cmp_in _ _ | exact pm_b8_in _ | (unfold pm_inI; split <;> omega)) (by first | (unfold pm_inI; omega) | exact pm_and_in _ _ | exact pm_shr_in _ _ | exact pm_or_in _ _ | exact pm_xor_in _ _ | exact pm_shl_in _ _ | exact pm_cmp_in _ _ | exact pm_b8_in _ | (unfold pm_inI; split <;> omega)) (fun _ => ?_) (fun h => absurd (show ¬ (2 : Int) = (1 : Int) by omega) h)
  refine g_iload lk_243_9 rfl ?_
  refine g_istore (ls' := [(2, ((116 : Nat) : Int)), (0, (h : Int)), (0, 2), (0, (rs : Int)), (0, (cs : Int)), (0, (cs : Int)), (9, 0), (9, 0), (9, 0), (9, 0)]) lk_243_11 rfl rfl ?_
  refine g_aload_n lk_243_13 rfl ?_
  refine g_iload_n lk_243_14 rfl ?_
  refine g_iload lk_243_15 rfl ?_
  refine g_virtual (p := 116) (Qc := _) lk_243_17 rfl (Nat.le_of_ble_eq_true rfl) rfl rfl (lay0.on (by decide) rfl) (Nat.le_of_ble_eq_true rfl) (Nat.le_of_ble_eq_true rfl) (Nat.zero_le _) (Nat.zero_le _) (c_Mo_askedA lay0 hT hM0 hi.2.1 hi.2.2.2) ?_
  rintro _ N1 ⟨rfl, hN1⟩
  rw [hN1]
  show Wp _ 243 20 [(2, ((116 : Nat) : Int)), (0, (h : Int)), (0, 2), (0, (rs : Int)), (0, (cs : Int)), (0, (cs : Int)), (9, 0), (9, 0), (9, 0), (9, 0)] [(0, (nA T rs cs : Int))] M _ _ _
  refine g_istore (ls' := [(2, ((116 : Nat) : Int)), (0, (h : Int)), (0, 2), (0, (rs : Int)), (0, (cs : Int)), (0, (cs : Int)), (0, (nA T rs cs : Int)), (9, 0), (9, 0), (9, 0)]) lk_243_20 rfl rfl ?_
  refine g_iconst lk_243_22 ?_
  refine g_istore (ls' := [(2, ((116 : Nat) : Int)), (0, (h : Int)), (0, 2), (0, (rs : Int)), (0, (cs : Int)), (0, (cs : Int)), (0, (nA T rs cs : Int)), (0, 1), (9, 0), (9, 0)]) lk_243_23 rfl rfl ?_
  exact loop (cs - 1) 1 _ _ (by omega) (by omega) st
