/-! ===== the law: its loop ===== -/
theorem lw_one {D mc ms L i : Nat} {X : Nat → Int} {M : pm_M} {Q : pm_Q} (inv : Inv M L X) (hX : ∀ j, pm_inI (X j)) (hi : i + 6 ≤ L) (L3 : L ≤ 3072) (b1 : 3 ≤ mc) (b2 : 12288 ≤ ms) (nx : LwN D mc ms L i X Q) :
    Wp (D + 20) 267 27 [(2, ((0 : Nat) : Int)), (2, ((1 : Nat) : Int)), (2, ((116 : Nat) : Int)), (0, (i : Int))] [] M mc ms Q := by
  have lay : Lay M := by
    obtain ⟨T, Ts, ps, dps, na, aa, n, tp, f, p, hSX, _⟩ := inv
    exact hSX.1
  have scM : ScI M L X := by
    obtain ⟨T, Ts, ps, dps, na, aa, n, tp, f, p, _, _, _, hAx⟩ := inv
    exact hAx.2.2.2
  obtain ⟨a0, e0⟩ : ∃ a, X i = a := ⟨_, rfl⟩
  refine g_aload_n lk_267_27 rfl ?_
  refine g_iload_n lk_267_28 rfl ?_
  refine g_sload lk_267_29 scM (by omega) (j := i) (by omega) (v := a0) e0 ?_
  refine g_bipush lk_267_30 ?_
  refine g_iand lk_267_32 ?_
  refine g_tsw lk_267_33 (by first | (unfold pm_inI; omega) | exact pm_and_in _ _ | exact pm_shr_in _ _ | exact pm_or_in _ _ | exact pm_xor_in _ _ | exact pm_shl_in _ _ | exact pm_cmp_in _ _ | exact pm_b8_in _ | (unfold pm_inI; split <;> omega)) (And.intro (fun h1 => ?_) (fun h1 => (And.intro (fun h2 => ?_) (fun h2 => (And.intro (fun h3 => ?_) (fun h3 => (And.intro (fun h4 => ?_) (fun h4 => (And.intro (fun h5 => ?_) (fun h5 => (And.intro (fun h6 => ?_) (fun h6 => (And.intro (fun h7 => ?_) (fun h7 => (And.intro (fun h8 => ?_) (fun h8 => (And.intro (fun h9 => ?_) (fun h9 => (And.intro (fun h10 => ?_) (fun h10 => (And.intro (fun h11 => ?_) (fun h11 => (And.intro (fun h12 => ?_) (fun h12 => (And.intro (fun h13 => ?_) (fun h13 => (And.intro (fun h14 => ?_) (fun h14 => (And.intro (fun h15 => ?_) (fun h15 => (And.intro (fun h16 => ?_) (fun h16 => (And.intro (fun h17 => ?_) (fun h17 => (And.intro (fun h18 => ?_) (fun h18 => (And.intro (fun h19 => ?_) (fun h19 => (And.intro (fun h20 => ?_) (fun h20 => (And.intro (fun h21 => ?_) (fun h21 => (And.intro (fun h22 => ?_) (fun h22 => (And.intro (fun h23 => ?_) (fun h23 => (And.intro (fun h24 => ?_) (fun h24 => (And.intro (fun h25 => ?_) (fun h25 => (And.intro (fun h26 => ?_) (fun h26 => (And.intro (fun h27 => ?_) (fun h27 => (And.intro (fun h28 => ?_) (fun h28 => (And.intro (fun h29 => ?_) (fun h29 => (And.intro (fun h30 => ?_) (fun h30 => (And.intro (fun h31 => ?_) (fun h31 => (And.intro (fun h32 => ?_) (fun h32 => (And.intro (fun h33 => ?_) (fun h33 => ?_))))))))))))))))))))))))))))))))))))))))))))))))))))))))))))))))))
  · replace h1 : (pm_and a0 63) = 0 := h1
    show Wp _ 267 180 [(2, ((0 : Nat) : Int)), (2, ((1 : Nat) : Int)), (2, ((116 : Nat) : Int)), (0, (i : Int))] [] M _ _ _
    exact lw_feed inv hX hi L3 b1 b2 nx
  · replace h2 : (pm_and a0 63) = 1 := h2
    show Wp _ 267 243 [(2, ((0 : Nat) : Int)), (2, ((1 : Nat) : Int)), (2, ((116 : Nat) : Int)), (0, (i : Int))] [] M _ _ _
    exact lw_end inv hX hi L3 b1 b2 nx
  · replace h3 : (pm_and a0 63) = 2 := h3
    show Wp _ 267 266 [(2, ((0 : Nat) : Int)), (2, ((1 : Nat) : Int)), (2, ((116 : Nat) : Int)), (0, (i : Int))] [] M _ _ _
    exact lw_text inv hX hi L3 b1 b2 nx
  · replace h4 : (pm_and a0 63) = 3 := h4
    show Wp _ 267 279 [(2, ((0 : Nat) : Int)), (2, ((1 : Nat) : Int)), (2, ((116 : Nat) : Int)), (0, (i : Int))] [] M _ _ _
    exact lw_fault inv hX hi L3 b1 b2 nx
  · replace h5 : (pm_and a0 63) = 4 := h5
    show Wp _ 267 302 [(2, ((0 : Nat) : Int)), (2, ((1 : Nat) : Int)), (2, ((116 : Nat) : Int)), (0, (i : Int))] [] M _ _ _
    exact lw_about inv hX hi L3 b1 b2 nx
  · replace h6 : (pm_and a0 63) = 5 := h6
    show Wp _ 267 325 [(2, ((0 : Nat) : Int)), (2, ((1 : Nat) : Int)), (2, ((116 : Nat) : Int)), (0, (i : Int))] [] M _ _ _
    exact lw_cell inv hX hi L3 b1 b2 nx
  · replace h7 : (pm_and a0 63) = 6 := h7
    show Wp _ 267 358 [(2, ((0 : Nat) : Int)), (2, ((1 : Nat) : Int)), (2, ((116 : Nat) : Int)), (0, (i : Int))] [] M _ _ _
    exact lw_area inv hX hi L3 b1 b2 nx
  · replace h8 : (pm_and a0 63) = 7 := h8
    show Wp _ 267 401 [(2, ((0 : Nat) : Int)), (2, ((1 : Nat) : Int)), (2, ((116 : Nat) : Int)), (0, (i : Int))] [] M _ _ _
    exact lw_greatest inv hX hi L3 b1 b2 nx
  · replace h9 : (pm_and a0 63) = 8 := h9
    show Wp _ 267 434 [(2, ((0 : Nat) : Int)), (2, ((1 : Nat) : Int)), (2, ((116 : Nat) : Int)), (0, (i : Int))] [] M _ _ _
    exact lw_cover inv hX hi L3 b1 b2 nx
  · replace h10 : (pm_and a0 63) = 9 := h10
    show Wp _ 267 457 [(2, ((0 : Nat) : Int)), (2, ((1 : Nat) : Int)), (2, ((116 : Nat) : Int)), (0, (i : Int))] [] M _ _ _
    exact lw_full inv hX hi L3 b1 b2 nx
  · replace h11 : (pm_and a0 63) = 10 := h11
    show Wp _ 267 500 [(2, ((0 : Nat) : Int)), (2, ((1 : Nat) : Int)), (2, ((116 : Nat) : Int)), (0, (i : Int))] [] M _ _ _
    exact lw_conflict inv hX hi L3 b1 b2 nx
  · replace h12 : (pm_and a0 63) = 11 := h12
    show Wp _ 267 559 [(2, ((0 : Nat) : Int)), (2, ((1 : Nat) : Int)), (2, ((116 : Nat) : Int)), (0, (i : Int))] [] M _ _ _
    exact lw_around inv hX hi L3 b1 b2 nx
  · replace h13 : (pm_and a0 63) = 12 := h13
    show Wp _ 267 592 [(2, ((0 : Nat) : Int)), (2, ((1 : Nat) : Int)), (2, ((116 : Nat) : Int)), (0, (i : Int))] [] M _ _ _
    exact lw_fooling inv hX hi L3 b1 b2 nx
  · replace h14 : (pm_and a0 63) = 13 := h14
    show Wp _ 267 625 [(2, ((0 : Nat) : Int)), (2, ((1 : Nat) : Int)), (2, ((116 : Nat) : Int)), (0, (i : Int))] [] M _ _ _
    exact lw_fools inv hX hi L3 b1 b2 nx
  · replace h15 : (pm_and a0 63) = 14 := h15
    show Wp _ 267 658 [(2, ((0 : Nat) : Int)), (2, ((1 : Nat) : Int)), (2, ((116 : Nat) : Int)), (0, (i : Int))] [] M _ _ _
    exact lw_rank inv hX hi L3 b1 b2 nx
  · replace h16 : (pm_and a0 63) = 15 := h16
    show Wp _ 267 681 [(2, ((0 : Nat) : Int)), (2, ((1 : Nat) : Int)), (2, ((116 : Nat) : Int)), (0, (i : Int))] [] M _ _ _
    exact lw_groups inv hX hi L3 b1 b2 nx
  · replace h17 : (pm_and a0 63) = 16 := h17
    show Wp _ 267 720 [(2, ((0 : Nat) : Int)), (2, ((1 : Nat) : Int)), (2, ((116 : Nat) : Int)), (0, (i : Int))] [] M _ _ _
    exact lw_leaning inv hX hi L3 b1 b2 nx
  · replace h18 : (pm_and a0 63) = 17 := h18
    show Wp _ 267 743 [(2, ((0 : Nat) : Int)), (2, ((1 : Nat) : Int)), (2, ((116 : Nat) : Int)), (0, (i : Int))] [] M _ _ _
    exact lw_best inv hX hi L3 b1 b2 nx
  · replace h19 : (pm_and a0 63) = 18 := h19
    show Wp _ 267 766 [(2, ((0 : Nat) : Int)), (2, ((1 : Nat) : Int)), (2, ((116 : Nat) : Int)), (0, (i : Int))] [] M _ _ _
    exact lw_byTurns inv hX hi L3 b1 b2 nx
  · replace h20 : (pm_and a0 63) = 19 := h20
    show Wp _ 267 789 [(2, ((0 : Nat) : Int)), (2, ((1 : Nat) : Int)), (2, ((116 : Nat) : Int)), (0, (i : Int))] [] M _ _ _
    exact lw_node inv hX hi L3 b1 b2 nx
  · replace h21 : (pm_and a0 63) = 20 := h21
    show Wp _ 267 832 [(2, ((0 : Nat) : Int)), (2, ((1 : Nat) : Int)), (2, ((116 : Nat) : Int)), (0, (i : Int))] [] M _ _ _
    exact lw_wrong inv hX hi L3 b1 b2 nx
  · replace h22 : (pm_and a0 63) = 21 := h22
    show Wp _ 267 855 [(2, ((0 : Nat) : Int)), (2, ((1 : Nat) : Int)), (2, ((116 : Nat) : Int)), (0, (i : Int))] [] M _ _ _
    exact lw_bound inv hX hi L3 b1 b2 nx
  · replace h23 : (pm_and a0 63) = 22 := h23
    show Wp _ 267 878 [(2, ((0 : Nat) : Int)), (2, ((1 : Nat) : Int)), (2, ((116 : Nat) : Int)), (0, (i : Int))] [] M _ _ _
    exact lw_answer inv hX hi L3 b1 b2 nx
  · replace h24 : (pm_and a0 63) = 23 := h24
    show Wp _ 267 921 [(2, ((0 : Nat) : Int)), (2, ((1 : Nat) : Int)), (2, ((116 : Nat) : Int)), (0, (i : Int))] [] M _ _ _
    exact lw_cost inv hX hi L3 b1 b2 nx
  · replace h25 : (pm_and a0 63) = 24 := h25
    show Wp _ 267 964 [(2, ((0 : Nat) : Int)), (2, ((1 : Nat) : Int)), (2, ((116 : Nat) : Int)), (0, (i : Int))] [] M _ _ _
    exact lw_leaf inv hX hi L3 b1 b2 nx
  · replace h26 : (pm_and a0 63) = 25 := h26
    show Wp _ 267 1007 [(2, ((0 : Nat) : Int)), (2, ((1 : Nat) : Int)), (2, ((116 : Nat) : Int)), (0, (i : Int))] [] M _ _ _
    exact lw_bit inv hX hi L3 b1 b2 nx
  · replace h27 : (pm_and a0 63) = 26 := h27
    show Wp _ 267 1060 [(2, ((0 : Nat) : Int)), (2, ((1 : Nat) : Int)), (2, ((116 : Nat) : Int)), (0, (i : Int))] [] M _ _ _
    exact lw_tree inv hX hi L3 b1 b2 nx
  · replace h28 : (pm_and a0 63) = 27 := h28
    show Wp _ 267 1093 [(2, ((0 : Nat) : Int)), (2, ((1 : Nat) : Int)), (2, ((116 : Nat) : Int)), (0, (i : Int))] [] M _ _ _
    exact lw_told inv hX hi L3 b1 b2 nx
  · replace h29 : (pm_and a0 63) = 28 := h29
    show Wp _ 267 1136 [(2, ((0 : Nat) : Int)), (2, ((1 : Nat) : Int)), (2, ((116 : Nat) : Int)), (0, (i : Int))] [] M _ _ _
    exact lw_graft inv hX hi L3 b1 b2 nx
  · replace h30 : (pm_and a0 63) = 29 := h30
    show Wp _ 267 1179 [(2, ((0 : Nat) : Int)), (2, ((1 : Nat) : Int)), (2, ((116 : Nat) : Int)), (0, (i : Int))] [] M _ _ _
    exact lw_apart inv hX hi L3 b1 b2 nx
  · replace h31 : (pm_and a0 63) = 30 := h31
    show Wp _ 267 1212 [(2, ((0 : Nat) : Int)), (2, ((1 : Nat) : Int)), (2, ((116 : Nat) : Int)), (0, (i : Int))] [] M _ _ _
    exact lw_put inv hX hi L3 b1 b2 nx
  · replace h32 : (pm_and a0 63) = 31 := h32
    show Wp _ 267 1255 [(2, ((0 : Nat) : Int)), (2, ((1 : Nat) : Int)), (2, ((116 : Nat) : Int)), (0, (i : Int))] [] M _ _ _
    exact lw_turn inv hX hi L3 b1 b2 nx
  · replace h33 : (pm_and a0 63) = 32 := h33
    show Wp _ 267 1268 [(2, ((0 : Nat) : Int)), (2, ((1 : Nat) : Int)), (2, ((116 : Nat) : Int)), (0, (i : Int))] [] M _ _ _
    exact lw_undo inv hX hi L3 b1 b2 nx
  · show Wp _ 267 1281 [(2, ((0 : Nat) : Int)), (2, ((1 : Nat) : Int)), (2, ((116 : Nat) : Int)), (0, (i : Int))] [] M _ _ _
    replace h1 : ¬ (pm_and a0 63) = 0 := h1
    replace h2 : ¬ (pm_and a0 63) = 1 := h2
    replace h3 : ¬ (pm_and a0 63) = 2 := h3
    replace h4 : ¬ (pm_and a0 63) = 3 := h4
    replace h5 : ¬ (pm_and a0 63) = 4 := h5
    replace h6 : ¬ (pm_and a0 63) = 5 := h6
    replace h7 : ¬ (pm_and a0 63) = 6 := h7
    replace h8 : ¬ (pm_and a0 63) = 7 := h8
    replace h9 : ¬ (pm_and a0 63) = 8 := h9
    replace h10 : ¬ (pm_and a0 63) = 9 := h10
    replace h11 : ¬ (pm_and a0 63) = 10 := h11
    replace h12 : ¬ (pm_and a0 63) = 11 := h12
    replace h13 : ¬ (pm_and a0 63) = 12 := h13
    replace h14 : ¬ (pm_and a0 63) = 13 := h14
    replace h15 : ¬ (pm_and a0 63) = 14 := h15
    replace h16 : ¬ (pm_and a0 63) = 15 := h16
    replace h17 : ¬ (pm_and a0 63) = 16 := h17
    replace h18 : ¬ (pm_and a0 63) = 17 := h18
    replace h19 : ¬ (pm_and a0 63) = 18 := h19
    replace h20 : ¬ (pm_and a0 63) = 19 := h20
    replace h21 : ¬ (pm_and a0 63) = 20 := h21
    replace h22 : ¬ (pm_and a0 63) = 21 := h22
    replace h23 : ¬ (pm_and a0 63) = 22 := h23
    replace h24 : ¬ (pm_and a0 63) = 23 := h24
    replace h25 : ¬ (pm_and a0 63) = 24 := h25
    replace h26 : ¬ (pm_and a0 63) = 25 := h26
    replace h27 : ¬ (pm_and a0 63) = 26 := h27
    replace h28 : ¬ (pm_and a0 63) = 27 := h28
    replace h29 : ¬ (pm_and a0 63) = 28 := h29
    replace h30 : ¬ (pm_and a0 63) = 29 := h30
    replace h31 : ¬ (pm_and a0 63) = 30 := h31
    replace h32 : ¬ (pm_and a0 63) = 31 := h32
    replace h33 : ¬ (pm_and a0 63) = 32 := h33
    exact nx M _ _ inv (by omega) (by omega)
theorem lw_loop {D L : Nat} {X : Nat → Int} (hX : ∀ j, pm_inI (X j)) (L3 : L ≤ 3072) : ∀ (k i : Nat) (M : pm_M) (cb sb : Nat), L ≤ i + 6 * k → i ≤ L → Inv M L X → 3 * k ≤ cb → 12288 * k ≤ sb → Wp (D + 20) 267 18 [(2, ((0 : Nat) : Int)), (2, ((1 : Nat) : Int)), (2, ((116 : Nat) : Int)), (0, (i : Int))] [] M cb sb (fun r _ => r = some (0, 1)) := by
  intro k
  induction k with
  | zero =>
    intro i M cb sb h1 h2 inv h3 h4
    have lay : Lay M := by
      obtain ⟨T, Ts, ps, dps, na, aa, n, tp, f, p, hSX, _⟩ := inv
      exact hSX.1
    have scM : ScI M L X := by
      obtain ⟨T, Ts, ps, dps, na, aa, n, tp, f, p, _, _, _, hAx⟩ := inv
      exact hAx.2.2.2
    refine g_iload_n lk_267_18 rfl ?_
    refine g_aload_n lk_267_19 rfl ?_
    refine g_slen lk_267_20 scM ?_
    refine g_bipush lk_267_21 ?_
    refine g_isub lk_267_23 ?_
    refine g_icmp (t := 1287) lk_267_24 rfl (by first | (unfold pm_inI; omega) | exact pm_and_in _ _ | exact pm_shr_in _ _ | exact pm_or_in _ _ | exact pm_xor_in _ _ | exact pm_shl_in _ _ | exact pm_cmp_in _ _ | exact pm_b8_in _ | (unfold pm_inI; split <;> omega)) (by first | (unfold pm_inI; omega) | exact pm_and_in _ _ | exact pm_shr_in _ _ | exact pm_or_in _ _ | exact pm_xor_in _ _ | exact pm_shl_in _ _ | exact pm_cmp_in _ _ | exact pm_b8_in _ | (unfold pm_inI; split <;> omega)) (fun h1 => ?_) (fun h1 => ?_)
    · replace h1 : ((L : Int) - 6) < (i : Int) := h1
      refine g_iconst lk_267_1287 ?_
      refine g_ireturn lk_267_1288 (fun _ => by omega) ?_
      rfl
    · replace h1 : ¬ (((L : Int) - 6) < (i : Int)) := h1
      omega
  | succ k ih =>
    intro i M cb sb q1 q2 inv q3 q4
    have lay : Lay M := by
      obtain ⟨T, Ts, ps, dps, na, aa, n, tp, f, p, hSX, _⟩ := inv
      exact hSX.1
    have scM : ScI M L X := by
      obtain ⟨T, Ts, ps, dps, na, aa, n, tp, f, p, _, _, _, hAx⟩ := inv
      exact hAx.2.2.2
    have go : i + 6 ≤ L → Wp (D + 20) 267 27 [(2, ((0 : Nat) : Int)), (2, ((1 : Nat) : Int)), (2, ((116 : Nat) : Int)), (0, (i : Int))] [] M cb sb (fun r _ => r = some (0, 1)) := fun hi => by
      refine lw_one inv hX hi L3 (by omega) (by omega) (fun N cb' sb' iN c1 c2 => ?_)
      have layN : Lay N := by
        obtain ⟨T, Ts, ps, dps, na, aa, n, tp, f, p, hSX, _⟩ := iN
        exact hSX.1
      have nx := ih (i + 6) N cb' sb' (by omega) hi iN (by omega) (by omega)
      clear ih
      refine g_iinc (ls' := [(2, ((0 : Nat) : Int)), (2, ((1 : Nat) : Int)), (2, ((116 : Nat) : Int)), (0, ((i : Int) + 6))]) lk_267_1281 rfl rfl rfl ?_
      refine g_goto (t := 18) lk_267_1284 rfl ?_
      exact nx
    clear ih
    refine g_iload_n lk_267_18 rfl ?_
    refine g_aload_n lk_267_19 rfl ?_
    refine g_slen lk_267_20 scM ?_
    refine g_bipush lk_267_21 ?_
    refine g_isub lk_267_23 ?_
    refine g_icmp (t := 1287) lk_267_24 rfl (by first | (unfold pm_inI; omega) | exact pm_and_in _ _ | exact pm_shr_in _ _ | exact pm_or_in _ _ | exact pm_xor_in _ _ | exact pm_shl_in _ _ | exact pm_cmp_in _ _ | exact pm_b8_in _ | (unfold pm_inI; split <;> omega)) (by first | (unfold pm_inI; omega) | exact pm_and_in _ _ | exact pm_shr_in _ _ | exact pm_or_in _ _ | exact pm_xor_in _ _ | exact pm_shl_in _ _ | exact pm_cmp_in _ _ | exact pm_b8_in _ | (unfold pm_inI; split <;> omega)) (fun h1 => ?_) (fun h1 => ?_)
    · replace h1 : ((L : Int) - 6) < (i : Int) := h1
      refine g_iconst lk_267_1287 ?_
      refine g_ireturn lk_267_1288 (fun _ => by omega) ?_
      rfl
    · replace h1 : ¬ (((L : Int) - 6) < (i : Int)) := h1
      exact go (by omega)
