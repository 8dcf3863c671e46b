/-! ===== the start: both objects are made ===== -/
def ce_v (h : List ce_C) (a k : Nat) : Int := match h[a - 1]? with
  | some c => ce_f c.2.2.1 c.2.2.2 k
  | none => 0
def ce_fa : List (Nat × Nat × Int) := [(24, 1, 1), (24, 2, 1), (24, 3, 1), (24, 4, 1), (1, 11, 0), (1, 12, 0), (44, 1, 45), (44, 2, 0), (98, 4, 99), (98, 5, 0), (98, 2, 0), (98, 6, 0), (104, 4, 105), (104, 5, 0), (104, 2, 1), (104, 6, 0), (110, 4, 111), (110, 5, 0), (110, 2, 2), (110, 6, 0), (47, 3, 49), (47, 4, 50), (47, 5, 0), (47, 6, 0), (51, 3, 53), (51, 4, 0), (116, 1, 1), (116, 2, 1), (120, 1, 1), (120, 2, 1), (116, 3, 0), (116, 70, 0), (116, 49, 0), (2, 4, 0), (116, 23, 0), (2, 6, 0), (2, 7, -1), (116, 29, 0), (116, 30, -1)]
def ce_rg : List (Nat × Nat × Int) := [(25, 36, 10), (117, 36, 10), (123, 124, 0), (128, 124, 0)]
def ce_ck (h : List ce_C) : Bool := decide (h.length = 156) && ((List.range 156).all (fun j => match h[j]? with
  | some c => (match layL[j + 1]? with
    | some q => decide (c.1 = q.1 ∧ c.2.1 = q.2)
    | none => false)
  | none => false) && ((List.range 157).all (fun a => (layF.getD a []).all (fun q => decide (ce_v h a q.1 = ((q.2 : Nat) : Int)))) && (ce_fa.all (fun t => decide (ce_v h t.1 t.2.1 = t.2.2)) && ce_rg.all (fun t => (List.range t.2.1).all (fun j => decide (ce_v h t.1 j = t.2.2))))))
def ce_T : Bool := match ce 4000 999 118 0 [(2, 1), (9, 0)] [] [(11, 0, 13, [])] with
  | some (ρ1, h1, c1, s1) => (ρ1.isNone && decide (h1.length = 115 ∧ c1 ≤ 1000 ∧ s1 ≤ 200000)) && (match ce 4000 999 166 0 [(2, 116)] [] (h1 ++ [(12, 0, 14, [])]) with
    | some (ρ2, h2, c2, s2) => (ρ2.isNone && decide (c2 ≤ 1000 ∧ s2 ≤ 200000)) && ce_ck h2
    | none => false)
  | none => false
set_option maxRecDepth 100000 in
theorem ce_T_ok : ce_T = true := by decide +kernel
theorem ce_runs : ∃ (h1 : List ce_C) (c1 s1 : Nat) (h2 : List ce_C) (c2 s2 : Nat), ce 4000 999 118 0 [(2, 1), (9, 0)] [] [(11, 0, 13, [])] = some (none, h1, c1, s1) ∧ (h1.length = 115 ∧ c1 ≤ 1000 ∧ s1 ≤ 200000) ∧ ce 4000 999 166 0 [(2, 116)] [] (h1 ++ [(12, 0, 14, [])]) = some (none, h2, c2, s2) ∧ (c2 ≤ 1000 ∧ s2 ≤ 200000) ∧ ce_ck h2 = true := by
  have t := ce_T_ok
  unfold ce_T at t
  cases e1 : ce 4000 999 118 0 [(2, 1), (9, 0)] [] [(11, 0, 13, [])] with
  | none => rw [e1] at t; cases t
  | some x =>
    obtain ⟨ρ1, h1, c1, s1⟩ := x
    rw [e1] at t
    have t' : ((ρ1.isNone && decide (h1.length = 115 ∧ c1 ≤ 1000 ∧ s1 ≤ 200000)) && (match ce 4000 999 166 0 [(2, 116)] [] (h1 ++ [(12, 0, 14, [])]) with
      | some (ρ2, h2, c2, s2) => (ρ2.isNone && decide (c2 ≤ 1000 ∧ s2 ≤ 200000)) && ce_ck h2
      | none => false)) = true := t
    rw [Bool.and_eq_true, Bool.and_eq_true] at t'
    obtain ⟨⟨n1, d1⟩, t2⟩ := t'
    have r1 : ρ1 = none := Option.isNone_iff_eq_none.mp n1
    cases e2 : ce 4000 999 166 0 [(2, 116)] [] (h1 ++ [(12, 0, 14, [])]) with
    | none => rw [e2] at t2; cases t2
    | some y =>
      obtain ⟨ρ2, h2, c2, s2⟩ := y
      rw [e2] at t2
      have t3 : ((ρ2.isNone && decide (c2 ≤ 1000 ∧ s2 ≤ 200000)) && ce_ck h2) = true := t2
      rw [Bool.and_eq_true, Bool.and_eq_true] at t3
      obtain ⟨⟨n2, d2⟩, ck⟩ := t3
      have r2 : ρ2 = none := Option.isNone_iff_eq_none.mp n2
      rw [r1]
      exact ⟨h1, c1, s1, h2, c2, s2, rfl, of_decide_eq_true d1, by rw [e2, r2], of_decide_eq_true d2, ck⟩
theorem ce_vv {S : pm_C} {h : List ce_C} {a : Nat} (a0 : 0 < a) (al : a ≤ h.length) (k : Nat) : pm_ct (ce_M S h) a k = ce_v h a k := by
  obtain ⟨j, rfl⟩ : ∃ j, a = j + 1 := ⟨a - 1, by omega⟩
  have e : h[j]? = some h[j] := List.getElem?_eq_getElem (by omega)
  rw [ce_ct e]
  unfold ce_v
  rw [Nat.add_sub_cancel, e]
theorem layF_len : layF.length = 157 := by decide +kernel
theorem ce_all {S : pm_C} {h : List ce_C} (ck : ce_ck h = true) : Lay (ce_M S h) ∧ (∀ t, t ∈ ce_fa → 0 < t.1 → t.1 ≤ 156 → pm_ct (ce_M S h) t.1 t.2.1 = t.2.2) ∧ (∀ t, t ∈ ce_rg → 0 < t.1 → t.1 ≤ 156 → ∀ j, j < t.2.1 → pm_ct (ce_M S h) t.1 j = t.2.2) := by
  unfold ce_ck at ck
  rw [Bool.and_eq_true, Bool.and_eq_true, Bool.and_eq_true, Bool.and_eq_true] at ck
  obtain ⟨k1, k2, k3, k4, k5⟩ := ck
  have l : h.length = 156 := of_decide_eq_true k1
  refine ⟨⟨?_, fun a q a0 hq => ?_, fun a k v hv => ?_⟩, fun t ht t0 t6 => ?_, fun t ht t0 t6 j hj => ?_⟩
  · show 157 ≤ h.length + 1
    omega
  · have al := layL_lt hq
    obtain ⟨j, rfl⟩ : ∃ j, a = j + 1 := ⟨a - 1, by omega⟩
    have e : h[j]? = some h[j] := List.getElem?_eq_getElem (by omega)
    have w := List.all_eq_true.mp k2 j (List.mem_range.mpr (by omega))
    rw [e, hq] at w
    have w' := of_decide_eq_true w
    rw [ce_kd e, ce_ln e]
    exact w'
  · unfold layR at hv
    cases e : (layF.getD a []).find? (fun q => q.1 == k) with
    | none => rw [e] at hv; cases hv
    | some q =>
      rw [e] at hv
      have ev : q.2 = v := Option.some.inj hv
      have qm := List.mem_of_find?_eq_some e
      have qk := List.find?_some e
      have qk' : q.1 = k := by simpa using qk
      have al : a < 157 := by
        rcases Nat.lt_or_ge a 157 with c | c
        · exact c
        · have en : layF.getD a [] = [] := by
            rw [List.getD_eq_getElem?_getD, List.getElem?_eq_none (by show layF.length ≤ a; rw [layF_len]; exact c)]
            rfl
          rw [en] at qm
          cases qm
      have w := List.all_eq_true.mp (List.all_eq_true.mp k3 a (List.mem_range.mpr al)) q qm
      have w' := of_decide_eq_true w
      have a0 : 0 < a := by
        rcases Nat.eq_zero_or_pos a with c | c
        · rw [c] at qm
          have en : layF.getD 0 [] = [] := by decide
          rw [en] at qm
          cases qm
        · exact c
      rw [ce_vv a0 (by omega), ← qk', ← ev]
      exact w'
  · rw [ce_vv t0 (by omega)]
    exact of_decide_eq_true (List.all_eq_true.mp k4 t ht)
  · rw [ce_vv t0 (by omega)]
    exact of_decide_eq_true (List.all_eq_true.mp (List.all_eq_true.mp k5 t ht) j (List.mem_range.mpr hj))
def T11 : Tab := (1, 1, fun _ => 10, 1, 1)
theorem inv0 {L : Nat} {X : Nat → Int} {h : List ce_C} (ck : ce_ck h = true) : Inv (ce_M (100, L, X) h) L X := by
  obtain ⟨lay, fa, rg⟩ := ce_all (S := (100, L, X)) ck
  obtain ⟨M, hM⟩ : ∃ M, M = ce_M (100, L, X) h := ⟨_, rfl⟩
  have sc : ScI M L X := by
    rw [hM]
    exact ⟨Nat.le_add_left 1 _, rfl, rfl, rfl⟩
  rw [← hM] at lay fa rg ⊢
  have m := lay.1
  have n01 : ∀ {P : Prop}, (0 : Nat) = 1 → P := fun e => absurd e (by decide)
  have n10 : ∀ {P : Prop}, 1 ≤ (0 : Nat) → P := fun e => absurd e (by decide)
  have vac : ∀ {P : Nat → Prop} (i : Nat), i < 0 → P i := fun i hi => absurd hi (Nat.not_lt_zero i)
  have F := fun (a k : Nat) (z : Int) (q : (a, k, z) ∈ ce_fa) (a0 : 0 < a) (a6 : a ≤ 156) => fa (a, k, z) q a0 a6
  have G := fun (a n : Nat) (z : Int) (q : (a, n, z) ∈ ce_rg) (a0 : 0 < a) (a6 : a ≤ 156) => rg (a, n, z) q a0 a6
  have kd : ∀ a, (a, 124, (0 : Int)) ∈ ce_rg → 0 < a → a ≤ 156 → KdM M a := fun a q a0 a6 k hk => by
    have w : pm_ct M a k = 0 := G a 124 0 q a0 a6 k hk
    omega
  have cA : CA M T11 45 0 := ⟨Or.inl rfl, F 44 1 45 (by decide) (by decide) (by decide), F 44 2 0 (by decide) (by decide) (by decide), by decide, 0, by decide, lay.ay (by decide) rfl, n01⟩
  have cB0 : CB M T11 0 98 99 0 := ⟨by unfold own; omega, F 98 4 99 (by decide) (by decide) (by decide), F 98 5 0 (by decide) (by decide) (by decide), F 98 2 0 (by decide) (by decide) (by decide), by decide, 0, by decide, lay.ay (by decide) rfl, n01⟩
  have cB1 : CB M T11 1 104 105 0 := ⟨by unfold own; omega, F 104 4 105 (by decide) (by decide) (by decide), F 104 5 0 (by decide) (by decide) (by decide), F 104 2 1 (by decide) (by decide) (by decide), by decide, 0, by decide, lay.ay (by decide) rfl, n01⟩
  have cB2 : CB M T11 2 110 111 0 := ⟨by unfold own; omega, F 110 4 111 (by decide) (by decide) (by decide), F 110 5 0 (by decide) (by decide) (by decide), F 110 2 2 (by decide) (by decide) (by decide), by decide, 0, by decide, lay.ay (by decide) rfl, n01⟩
  have cN0 : CN M T11 0 98 0 := ⟨F 98 6 0 (by decide) (by decide) (by decide), by decide, n01⟩
  have cN1 : CN M T11 1 104 0 := ⟨F 104 6 0 (by decide) (by decide) (by decide), by decide, n01⟩
  have cN2 : CN M T11 2 110 0 := ⟨F 110 6 0 (by decide) (by decide) (by decide), by decide, n01⟩
  have cT : CT M T11 49 50 0 0 := ⟨by unfold own; omega, by unfold own; omega, by decide, F 47 3 49 (by decide) (by decide) (by decide), F 47 4 50 (by decide) (by decide) (by decide), F 47 5 0 (by decide) (by decide) (by decide), F 47 6 0 (by decide) (by decide) (by decide), by decide, by decide, vac, 0, by decide, lay.ay (by decide) rfl, lay.ay (by decide) rfl, n10⟩
  have cS : CS M T11 53 0 := ⟨by unfold own; omega, F 51 3 53 (by decide) (by decide) (by decide), F 51 4 0 (by decide) (by decide) (by decide), by decide, vac, 0, by decide, lay.ay (by decide) rfl, n10⟩
  have ch : Chs M T11 := ⟨45, 0, 99, 0, 0, 105, 0, 0, 111, 0, 0, 49, 50, 0, 0, 53, 0, cA, ⟨cB0, cN0⟩, ⟨cB1, cN1⟩, ⟨cB2, cN2⟩, cT, cS, n01, n01, n01, n01, n01, n01, n10, n10, by decide, fun a ha => by
    simp only [List.mem_cons, List.not_mem_nil, or_false] at ha
    unfold own
    omega⟩
  have okT : TabOK T11 := ⟨⟨by decide, by decide⟩, ⟨by decide, by decide⟩, fun _ => Nat.le_refl _, ⟨by decide, by decide⟩, ⟨by decide, by decide⟩⟩
  have sx : StX M T11 [] (fun _ _ => 0) (fun _ _ => 0) 0 (fun _ => 0) := ⟨lay, ⟨F 24 1 1 (by decide) (by decide) (by decide), F 24 2 1 (by decide) (by decide) (by decide), F 24 3 1 (by decide) (by decide) (by decide), F 24 4 1 (by decide) (by decide) (by decide), fun i hi => G 25 36 10 (by decide) (by decide) (by decide) i hi⟩, ⟨Nat.zero_le _, F 1 11 0 (by decide) (by decide) (by decide), vac⟩, ⟨Nat.zero_le _, F 1 12 0 (by decide) (by decide) (by decide), vac⟩, ch⟩
  have sm : StM M T11 [] (fun _ _ => 0) (fun _ _ => 0) 0 (fun _ => 0) := ⟨lay, ⟨F 116 1 1 (by decide) (by decide) (by decide), F 116 2 1 (by decide) (by decide) (by decide), F 120 1 1 (by decide) (by decide) (by decide), F 120 2 1 (by decide) (by decide) (by decide), fun i hi => G 117 36 10 (by decide) (by decide) (by decide) i hi⟩, ⟨Nat.zero_le _, F 116 3 0 (by decide) (by decide) (by decide), vac⟩, ⟨Nat.zero_le _, F 116 70 0 (by decide) (by decide) (by decide), vac⟩, CL_0 T11 (F 116 49 0 (by decide) (by decide) (by decide)), kd 123 (by decide) (by decide) (by decide)⟩
  exact ⟨T11, [], fun _ _ => 0, fun _ _ => 0, 0, fun _ => 0, 0, fun _ => 0, 0, -1, sx, sm, ⟨okT, fun i _ => Or.inr rfl, trivial⟩, ⟨⟨F 2 4 0 (by decide) (by decide) (by decide), vac⟩, ⟨F 116 23 0 (by decide) (by decide) (by decide), vac⟩, Nat.zero_le _, vac⟩, kd 128 (by decide) (by decide) (by decide), ⟨F 2 6 0 (by decide) (by decide) (by decide), F 2 7 (-1) (by decide) (by decide) (by decide), F 116 29 0 (by decide) (by decide) (by decide), F 116 30 (-1) (by decide) (by decide) (by decide)⟩, sc⟩
theorem law_run {L : Nat} {X : Nat → Int} (hX : ∀ j, pm_inI (X j)) (L3 : L ≤ 3072) : Wp 1000 267 0 [(2, 0), (9, 0), (9, 0), (9, 0)] [] (ce_M (100, L, X) []) 600000 7302250 (fun r _ => r = some (0, 1)) := by
  obtain ⟨h1, c1, s1, h2, c2, s2, r1, ⟨l1, lc1, ls1⟩, r2, ⟨lc2, ls2⟩, ck⟩ := ce_runs
  obtain ⟨S, hS⟩ : ∃ S : pm_C, S = (100, L, X) := ⟨_, rfl⟩
  have iv : Inv (ce_M S h2) L X := by rw [hS]; exact inv0 ck
  rw [← hS]
  have n11 : pm_nf 11 ≤ 100 := by decide
  have n12 : pm_nf 12 ≤ 100 := by decide
  obtain ⟨u, hu⟩ : ∃ u, u = pm_nf 11 := ⟨_, rfl⟩
  obtain ⟨v, hv⟩ : ∃ v, v = pm_nf 12 := ⟨_, rfl⟩
  refine g_new lk_267_0 (by omega) (by omega) ?_
  rw [ce_nw, ← hu]
  show Wp 1000 267 3 [(2, ((0 : Nat) : Int)), (9, 0), (9, 0), (9, 0)] [(2, ((1 : Nat) : Int))] (ce_M S [(11, 0, 13, [])]) (600000 - 1) (7302250 - u) _
  refine g_dup lk_267_3 rfl ?_
  refine g_init (p := 1) (mc := c1) (ms := s1) (Qc := fun ρ M' => ρ = none ∧ M' = ce_M S h1) lk_267_4 (by decide) rfl (Nat.le_of_ble_eq_true rfl) rfl rfl (Nat.le_of_ble_eq_true rfl) (Nat.le_of_ble_eq_true rfl) (by omega) (by omega) (ce_ok 4000 999 118 0 _ _ _ _ _ _ _ r1 S c1 s1 _ (Nat.le_refl _) (Nat.le_refl _) ⟨rfl, rfl⟩) ?_
  rintro _ _ ⟨rfl, rfl⟩
  show Wp 1000 267 7 [(2, ((0 : Nat) : Int)), (9, 0), (9, 0), (9, 0)] [(2, ((1 : Nat) : Int))] (ce_M S h1) (600000 - 1 - c1) (7302250 - u - s1) _
  refine g_astore_n (ls' := [(2, ((0 : Nat) : Int)), (2, ((1 : Nat) : Int)), (9, 0), (9, 0)]) lk_267_7 rfl rfl ?_
  refine g_new lk_267_8 (by omega) (by omega) ?_
  rw [ce_nw, ← hv]
  show Wp 1000 267 11 [(2, ((0 : Nat) : Int)), (2, ((1 : Nat) : Int)), (9, 0), (9, 0)] [(2, ((h1.length + 1 : Nat) : Int))] (ce_M S (h1 ++ [(12, 0, 14, [])])) (600000 - 1 - c1 - 1) (7302250 - u - s1 - v) _
  rw [l1]
  refine g_dup lk_267_11 rfl ?_
  refine g_init (p := 116) (mc := c2) (ms := s2) (Qc := fun ρ M' => ρ = none ∧ M' = ce_M S h2) lk_267_12 (by decide) rfl (Nat.le_of_ble_eq_true rfl) rfl rfl (Nat.le_of_ble_eq_true rfl) (Nat.le_of_ble_eq_true rfl) (by omega) (by omega) (ce_ok 4000 999 166 0 _ _ _ _ _ _ _ r2 S c2 s2 _ (Nat.le_refl _) (Nat.le_refl _) ⟨rfl, rfl⟩) ?_
  rintro _ _ ⟨rfl, rfl⟩
  show Wp 1000 267 15 [(2, ((0 : Nat) : Int)), (2, ((1 : Nat) : Int)), (9, 0), (9, 0)] [(2, ((116 : Nat) : Int))] (ce_M S h2) (600000 - 1 - c1 - 1 - c2) (7302250 - u - s1 - v - s2) _
  refine g_astore_n (ls' := [(2, ((0 : Nat) : Int)), (2, ((1 : Nat) : Int)), (2, ((116 : Nat) : Int)), (9, 0)]) lk_267_15 rfl rfl ?_
  refine g_iconst lk_267_16 ?_
  refine g_istore_n (ls' := [(2, ((0 : Nat) : Int)), (2, ((1 : Nat) : Int)), (2, ((116 : Nat) : Int)), (0, ((0 : Nat) : Int))]) lk_267_17 rfl rfl ?_
  exact lw_loop (D := 980) hX L3 512 0 (ce_M S h2) _ _ (by omega) (by omega) iv (by omega) (by omega)
