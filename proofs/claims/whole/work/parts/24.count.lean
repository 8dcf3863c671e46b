/-! ===== bits, countIn, askedIn, filledIn ===== -/
def bt (s k : Nat) : Nat := if s.testBit k then 1 else 0
theorem bt_and {s k : Nat} (hs : s < 2147483648) (hk : k < 32) : pm_and (pm_shr (s : Int) (k : Int)) 1 = (bt s k : Int) := by
  rw [pm_bit hs hk]; unfold bt; split <;> rfl
theorem pop_bt (s : Nat) : pop s = 0 + bt s 0 + bt s 1 + bt s 2 + bt s 3 + bt s 4 + bt s 5 + bt s 6 + bt s 7 + bt s 8 + bt s 9 + bt s 10 + bt s 11 := rfl
set_option maxHeartbeats 4000000 in
theorem c_Mo_bits {d mc ms : Nat} {M : pm_M} {s : Nat} (hs : s < 2147483648) :
    pm_E d 171 [(0, (s : Int))] M mc ms (fun ρ M' => ρ = some (0, (pop s : Int)) ∧ M' = M) := by
  have b0 : pm_and (pm_shr (s : Int) 0) 1 = (bt s 0 : Int) := bt_and (k := 0) hs (by decide)
  have b1 : pm_and (pm_shr (s : Int) 1) 1 = (bt s 1 : Int) := bt_and (k := 1) hs (by decide)
  have b2 : pm_and (pm_shr (s : Int) 2) 1 = (bt s 2 : Int) := bt_and (k := 2) hs (by decide)
  have b3 : pm_and (pm_shr (s : Int) 3) 1 = (bt s 3 : Int) := bt_and (k := 3) hs (by decide)
  have b4 : pm_and (pm_shr (s : Int) 4) 1 = (bt s 4 : Int) := bt_and (k := 4) hs (by decide)
  have b5 : pm_and (pm_shr (s : Int) 5) 1 = (bt s 5 : Int) := bt_and (k := 5) hs (by decide)
  have b6 : pm_and (pm_shr (s : Int) 6) 1 = (bt s 6 : Int) := bt_and (k := 6) hs (by decide)
  have b7 : pm_and (pm_shr (s : Int) 7) 1 = (bt s 7 : Int) := bt_and (k := 7) hs (by decide)
  have b8 : pm_and (pm_shr (s : Int) 8) 1 = (bt s 8 : Int) := bt_and (k := 8) hs (by decide)
  have b9 : pm_and (pm_shr (s : Int) 9) 1 = (bt s 9 : Int) := bt_and (k := 9) hs (by decide)
  have b10 : pm_and (pm_shr (s : Int) 10) 1 = (bt s 10 : Int) := bt_and (k := 10) hs (by decide)
  have b11 : pm_and (pm_shr (s : Int) 11) 1 = (bt s 11 : Int) := bt_and (k := 11) hs (by decide)
  show Wp d 171 0 [(0, (s : Int)), (9, 0), (9, 0)] [] M mc ms _
  refine g_iconst lk_171_0 ?_
  refine g_istore_n (ls' := [(0, (s : Int)), (0, 0), (9, 0)]) lk_171_1 rfl rfl ?_
  refine g_iconst lk_171_2 ?_
  refine g_istore_n (ls' := [(0, (s : Int)), (0, 0), (0, 0)]) lk_171_3 rfl rfl ?_
  refine g_iload_n lk_171_4 rfl ?_
  refine g_bipush lk_171_5 ?_
  refine g_icmp (t := 24) lk_171_7 rfl (by first | (unfold pm_inI; omega) | exact pm_and_in _ _ | exact pm_shr_in _ _ | exact pm_or_in _ _ | exact pm_xor_in _ _ | exact pm_shl_in _ _ | exact pm_cmp_in _ _ | exact pm_b8_in _ | (unfold pm_inI; split <;> omega)) (by first | (unfold pm_inI; omega) | exact pm_and_in _ _ | exact pm_shr_in _ _ | exact pm_or_in _ _ | exact pm_xor_in _ _ | exact pm_shl_in _ _ | exact pm_cmp_in _ _ | exact pm_b8_in _ | (unfold pm_inI; split <;> omega)) (fun h => absurd h (show ¬ ((12 : Int) ≤ (0 : Int)) by omega)) (fun _ => ?_)
  refine g_iload_n lk_171_10 rfl ?_
  refine g_iload_n lk_171_11 rfl ?_
  refine g_iload_n lk_171_12 rfl ?_
  refine g_ishr lk_171_13 ?_
  refine g_iconst lk_171_14 ?_
  refine g_iand lk_171_15 ?_
  refine g_iadd lk_171_16 ?_
  refine g_istore_n (ls' := [(0, (s : Int)), (0, (0 + (pm_and (pm_shr (s : Int) 0) 1))), (0, 0)]) lk_171_17 rfl rfl ?_
  refine g_iinc (ls' := [(0, (s : Int)), (0, (0 + (pm_and (pm_shr (s : Int) 0) 1))), (0, 1)]) lk_171_18 rfl rfl rfl ?_
  refine g_goto (t := 4) lk_171_21 rfl ?_
  refine g_iload_n lk_171_4 rfl ?_
  refine g_bipush lk_171_5 ?_
  refine g_icmp (t := 24) lk_171_7 rfl (by first | (unfold pm_inI; omega) | exact pm_and_in _ _ | exact pm_shr_in _ _ | exact pm_or_in _ _ | exact pm_xor_in _ _ | exact pm_shl_in _ _ | exact pm_cmp_in _ _ | exact pm_b8_in _ | (unfold pm_inI; split <;> omega)) (by first | (unfold pm_inI; omega) | exact pm_and_in _ _ | exact pm_shr_in _ _ | exact pm_or_in _ _ | exact pm_xor_in _ _ | exact pm_shl_in _ _ | exact pm_cmp_in _ _ | exact pm_b8_in _ | (unfold pm_inI; split <;> omega)) (fun h => absurd h (show ¬ ((12 : Int) ≤ (1 : Int)) by omega)) (fun _ => ?_)
  refine g_iload_n lk_171_10 rfl ?_
  refine g_iload_n lk_171_11 rfl ?_
  refine g_iload_n lk_171_12 rfl ?_
  refine g_ishr lk_171_13 ?_
  refine g_iconst lk_171_14 ?_
  refine g_iand lk_171_15 ?_
  refine g_iadd lk_171_16 ?_
  refine g_istore_n (ls' := [(0, (s : Int)), (0, ((0 + (pm_and (pm_shr (s : Int) 0) 1)) + (pm_and (pm_shr (s : Int) 1) 1))), (0, 1)]) lk_171_17 rfl rfl ?_
  refine g_iinc (ls' := [(0, (s : Int)), (0, ((0 + (pm_and (pm_shr (s : Int) 0) 1)) + (pm_and (pm_shr (s : Int) 1) 1))), (0, 2)]) lk_171_18 rfl rfl rfl ?_
  refine g_goto (t := 4) lk_171_21 rfl ?_
  refine g_iload_n lk_171_4 rfl ?_
  refine g_bipush lk_171_5 ?_
  refine g_icmp (t := 24) lk_171_7 rfl (by first | (unfold pm_inI; omega) | exact pm_and_in _ _ | exact pm_shr_in _ _ | exact pm_or_in _ _ | exact pm_xor_in _ _ | exact pm_shl_in _ _ | exact pm_cmp_in _ _ | exact pm_b8_in _ | (unfold pm_inI; split <;> omega)) (by first | (unfold pm_inI; omega) | exact pm_and_in _ _ | exact pm_shr_in _ _ | exact pm_or_in _ _ | exact pm_xor_in _ _ | exact pm_shl_in _ _ | exact pm_cmp_in _ _ | exact pm_b8_in _ | (unfold pm_inI; split <;> omega)) (fun h => absurd h (show ¬ ((12 : Int) ≤ (2 : Int)) by omega)) (fun _ => ?_)
  refine g_iload_n lk_171_10 rfl ?_
  refine g_iload_n lk_171_11 rfl ?_
  refine g_iload_n lk_171_12 rfl ?_
  refine g_ishr lk_171_13 ?_
  refine g_iconst lk_171_14 ?_
  refine g_iand lk_171_15 ?_
  refine g_iadd lk_171_16 ?_
  refine g_istore_n (ls' := [(0, (s : Int)), (0, (((0 + (pm_and (pm_shr (s : Int) 0) 1)) + (pm_and (pm_shr (s : Int) 1) 1)) + (pm_and (pm_shr (s : Int) 2) 1))), (0, 2)]) lk_171_17 rfl rfl ?_
  refine g_iinc (ls' := [(0, (s : Int)), (0, (((0 + (pm_and (pm_shr (s : Int) 0) 1)) + (pm_and (pm_shr (s : Int) 1) 1)) + (pm_and (pm_shr (s : Int) 2) 1))), (0, 3)]) lk_171_18 rfl rfl rfl ?_
  refine g_goto (t := 4) lk_171_21 rfl ?_
  refine g_iload_n lk_171_4 rfl ?_
  refine g_bipush lk_171_5 ?_
  refine g_icmp (t := 24) lk_171_7 rfl (by first | (unfold pm_inI; omega) | exact pm_and_in _ _ | exact pm_shr_in _ _ | exact pm_or_in _ _ | exact pm_xor_in _ _ | exact pm_shl_in _ _ | exact pm_cmp_in _ _ | exact pm_b8_in _ | (unfold pm_inI; split <;> omega)) (by first | (unfold pm_inI; omega) | exact pm_and_in _ _ | exact pm_shr_in _ _ | exact pm_or_in _ _ | exact pm_xor_in _ _ | exact pm_shl_in _ _ | exact pm_cmp_in _ _ | exact pm_b8_in _ | (unfold pm_inI; split <;> omega)) (fun h => absurd h (show ¬ ((12 : Int) ≤ (3 : Int)) by omega)) (fun _ => ?_)
  refine g_iload_n lk_171_10 rfl ?_
  refine g_iload_n lk_171_11 rfl ?_
  refine g_iload_n lk_171_12 rfl ?_
  refine g_ishr lk_171_13 ?_
  refine g_iconst lk_171_14 ?_
  refine g_iand lk_171_15 ?_
  refine g_iadd lk_171_16 ?_
  refine g_istore_n (ls' := [(0, (s : Int)), (0, ((((0 + (pm_and (pm_shr (s : Int) 0) 1)) + (pm_and (pm_shr (s : Int) 1) 1)) + (pm_and (pm_shr (s : Int) 2) 1)) + (pm_and (pm_shr (s : Int) 3) 1))), (0, 3)]) lk_171_17 rfl rfl ?_
  refine g_iinc (ls' := [(0, (s : Int)), (0, ((((0 + (pm_and (pm_shr (s : Int) 0) 1)) + (pm_and (pm_shr (s : Int) 1) 1)) + (pm_and (pm_shr (s : Int) 2) 1)) + (pm_and (pm_shr (s : Int) 3) 1))), (0, 4)]) lk_171_18 rfl rfl rfl ?_
  refine g_goto (t := 4) lk_171_21 rfl ?_
  refine g_iload_n lk_171_4 rfl ?_
  refine g_bipush lk_171_5 ?_
  refine g_icmp (t := 24) lk_171_7 rfl (by first | (unfold pm_inI; omega) | exact pm_and_in _ _ | exact pm_shr_in _ _ | exact pm_or_in _ _ | exact pm_xor_in _ _ | exact pm_shl_in _ _ | exact pm_cmp_in _ _ | exact pm_b8_in _ | (unfold pm_inI; split <;> omega)) (by first | (unfold pm_inI; omega) | exact pm_and_in _ _ | exact pm_shr_in _ _ | exact pm_or_in _ _ | exact pm_xor_in _ _ | exact pm_shl_in _ _ | exact pm_cmp_in _ _ | exact pm_b8_in _ | (unfold pm_inI; split <;> omega)) (fun h => absurd h (show ¬ ((12 : Int) ≤ (4 : Int)) by omega)) (fun _ => ?_)
  refine g_iload_n lk_171_10 rfl ?_
  refine g_iload_n lk_171_11 rfl ?_
  refine g_iload_n lk_171_12 rfl ?_
  refine g_ishr lk_171_13 ?_
  refine g_iconst lk_171_14 ?_
  refine g_iand lk_171_15 ?_
  refine g_iadd lk_171_16 ?_
  refine g_istore_n (ls' := [(0, (s : Int)), (0, (((((0 + (pm_and (pm_shr (s : Int) 0) 1)) + (pm_and (pm_shr (s : Int) 1) 1)) + (pm_and (pm_shr (s : Int) 2) 1)) + (pm_and (pm_shr (s : Int) 3) 1)) + (pm_and (pm_shr (s : Int) 4) 1))), (0, 4)]) lk_171_17 rfl rfl ?_
  refine g_iinc (ls' := [(0, (s : Int)), (0, (((((0 + (pm_and (pm_shr (s : Int) 0) 1)) + (pm_and (pm_shr (s : Int) 1) 1)) + (pm_and (pm_shr (s : Int) 2) 1)) + (pm_and (pm_shr (s : Int) 3) 1)) + (pm_and (pm_shr (s : Int) 4) 1))), (0, 5)]) lk_171_18 rfl rfl rfl ?_
  refine g_goto (t := 4) lk_171_21 rfl ?_
  refine g_iload_n lk_171_4 rfl ?_
  refine g_bipush lk_171_5 ?_
  refine g_icmp (t := 24) lk_171_7 rfl (by first | (unfold pm_inI; omega) | exact pm_and_in _ _ | exact pm_shr_in _ _ | exact pm_or_in _ _ | exact pm_xor_in _ _ | exact pm_shl_in _ _ | exact pm_cmp_in _ _ | exact pm_b8_in _ | (unfold pm_inI; split <;> omega)) (by first | (unfold pm_inI; omega) | exact pm_and_in _ _ | exact pm_shr_in _ _ | exact pm_or_in _ _ | exact pm_xor_in _ _ | exact pm_shl_in _ _ | exact pm_cmp_in _ _ | exact pm_b8_in _ | (unfold pm_inI; split <;> omega)) (fun h => absurd h (show ¬ ((12 : Int) ≤ (5 : Int)) by omega)) (fun _ => ?_)
  refine g_iload_n lk_171_10 rfl ?_
  refine g_iload_n lk_171_11 rfl ?_
  refine g_iload_n lk_171_12 rfl ?_
  refine g_ishr lk_171_13 ?_
  refine g_iconst lk_171_14 ?_
  refine g_iand lk_171_15 ?_
  refine g_iadd lk_171_16 ?_
  refine g_istore_n (ls' := [(0, (s : Int)), (0, ((((((0 + (pm_and (pm_shr (s : Int) 0) 1)) + (pm_and (pm_shr (s : Int) 1) 1)) + (pm_and (pm_shr (s : Int) 2) 1)) + (pm_and (pm_shr (s : Int) 3) 1)) + (pm_and (pm_shr (s : Int) 4) 1)) + (pm_and (pm_shr (s : Int) 5) 1))), (0, 5)]) lk_171_17 rfl rfl ?_
  refine g_iinc (ls' := [(0, (s : Int)), (0, ((((((0 + (pm_and (pm_shr (s : Int) 0) 1)) + (pm_and (pm_shr (s : Int) 1) 1)) + (pm_and (pm_shr (s : Int) 2) 1)) + (pm_and (pm_shr (s : Int) 3) 1)) + (pm_and (pm_shr (s : Int) 4) 1)) + (pm_and (pm_shr (s : Int) 5) 1))), (0, 6)]) lk_171_18 rfl rfl rfl ?_
  refine g_goto (t := 4) lk_171_21 rfl ?_
  refine g_iload_n lk_171_4 rfl ?_
  refine g_bipush lk_171_5 ?_
  refine g_icmp (t := 24) lk_171_7 rfl (by first | (unfold pm_inI; omega) | exact pm_and_in _ _ | exact pm_shr_in _ _ | exact pm_or_in _ _ | exact pm_xor_in _ _ | exact pm_shl_in _ _ | exact pm_cmp_in _ _ | exact pm_b8_in _ | (unfold pm_inI; split <;> omega)) (by first | (unfold pm_inI; omega) | exact pm_and_in _ _ | exact pm_shr_in _ _ | exact pm_or_in _ _ | exact pm_xor_in _ _ | exact pm_shl_in _ _ | exact pm_cmp_in _ _ | exact pm_b8_in _ | (unfold pm_inI; split <;> omega)) (fun h => absurd h (show ¬ ((12 : Int) ≤ (6 : Int)) by omega)) (fun _ => ?_)
  refine g_iload_n lk_171_10 rfl ?_
  refine g_iload_n lk_171_11 rfl ?_
  refine g_iload_n lk_171_12 rfl ?_
  refine g_ishr lk_171_13 ?_
  refine g_iconst lk_171_14 ?_
  refine g_iand lk_171_15 ?_
  refine g_iadd lk_171_16 ?_
  refine g_istore_n (ls' := [(0, (s : Int)), (0, (((((((0 + (pm_and (pm_shr (s : Int) 0) 1)) + (pm_and (pm_shr (s : Int) 1) 1)) + (pm_and (pm_shr (s : Int) 2) 1)) + (pm_and (pm_shr (s : Int) 3) 1)) + (pm_and (pm_shr (s : Int) 4) 1)) + (pm_and (pm_shr (s : Int) 5) 1)) + (pm_and (pm_shr (s : Int) 6) 1))), (0, 6)]) lk_171_17 rfl rfl ?_
  refine g_iinc (ls' := [(0, (s : Int)), (0, (((((((0 + (pm_and (pm_shr (s : Int) 0) 1)) + (pm_and (pm_shr (s : Int) 1) 1)) + (pm_and (pm_shr (s : Int) 2) 1)) + (pm_and (pm_shr (s : Int) 3) 1)) + (pm_and (pm_shr (s : Int) 4) 1)) + (pm_and (pm_shr (s : Int) 5) 1)) + (pm_and (pm_shr (s : Int) 6) 1))), (0, 7)]) lk_171_18 rfl rfl rfl ?_
  refine g_goto (t := 4) lk_171_21 rfl ?_
  refine g_iload_n lk_171_4 rfl ?_
  refine g_bipush lk_171_5 ?_
  refine g_icmp (t := 24) lk_171_7 rfl (by first | (unfold pm_inI; omega) | exact pm_and_in _ _ | exact pm_shr_in _ _ | exact pm_or_in _ _ | exact pm_xor_in _ _ | exact pm_shl_in _ _ | exact pm_cmp_in _ _ | exact pm_b8_in _ | (unfold pm_inI; split <;> omega)) (by first | (unfold pm_inI; omega) | exact pm_and_in _ _ | exact pm_shr_in _ _ | exact pm_or_in _ _ | exact pm_xor_in _ _ | exact pm_shl_in _ _ | exact pm_cmp_in _ _ | exact pm_b8_in _ | (unfold pm_inI; split <;> omega)) (fun h => absurd h (show ¬ ((12 : Int) ≤ (7 : Int)) by omega)) (fun _ => ?_)
  refine g_iload_n lk_171_10 rfl ?_
  refine g_iload_n lk_171_11 rfl ?_
  refine g_iload_n lk_171_12 rfl ?_
  refine g_ishr lk_171_13 ?_
  refine g_iconst lk_171_14 ?_
  refine g_iand lk_171_15 ?_
  refine g_iadd lk_171_16 ?_
  refine g_istore_n (ls' := [(0, (s : Int)), (0, ((((((((0 + (pm_and (pm_shr (s : Int) 0) 1)) + (pm_and (pm_shr (s : Int) 1) 1)) + (pm_and (pm_shr (s : Int) 2) 1)) + (pm_and (pm_shr (s : Int) 3) 1)) + (pm_and (pm_shr (s : Int) 4) 1)) + (pm_and (pm_shr (s : Int) 5) 1)) + (pm_and (pm_shr (s : Int) 6) 1)) + (pm_and (pm_shr (s : Int) 7) 1))), (0, 7)]) lk_171_17 rfl rfl ?_
  refine g_iinc (ls' := [(0, (s : Int)), (0, ((((((((0 + (pm_and (pm_shr (s : Int) 0) 1)) + (pm_and (pm_shr (s : Int) 1) 1)) + (pm_and (pm_shr (s : Int) 2) 1)) + (pm_and (pm_shr (s : Int) 3) 1)) + (pm_and (pm_shr (s : Int) 4) 1)) + (pm_and (pm_shr (s : Int) 5) 1)) + (pm_and (pm_shr (s : Int) 6) 1)) + (pm_and (pm_shr (s : Int) 7) 1))), (0, 8)]) lk_171_18 rfl rfl rfl ?_
  refine g_goto (t := 4) lk_171_21 rfl ?_
  refine g_iload_n lk_171_4 rfl ?_
  refine g_bipush lk_171_5 ?_
  refine g_icmp (t := 24) lk_171_7 rfl (by first | (unfold pm_inI; omega) | exact pm_and_in _ _ | exact pm_shr_in _ _ | exact pm_or_in _ _ | exact pm_xor_in _ _ | exact pm_shl_in _ _ | exact pm_cmp_in _ _ | exact pm_b8_in _ | (unfold pm_inI; split <;> omega)) (by first | (unfold pm_inI; omega) | exact pm_and_in _ _ | exact pm_shr_in _ _ | exact pm_or_in _ _ | exact pm_xor_in _ _ | exact pm_shl_in _ _ | exact pm_cmp_in _ _ | exact pm_b8_in _ | (unfold pm_inI; split <;> omega)) (fun h => absurd h (show ¬ ((12 : Int) ≤ (8 : Int)) by omega)) (fun _ => ?_)
  refine g_iload_n lk_171_10 rfl ?_
  refine g_iload_n lk_171_11 rfl ?_
  refine g_iload_n lk_171_12 rfl ?_
  refine g_ishr lk_171_13 ?_
  refine g_iconst lk_171_14 ?_
  refine g_iand lk_171_15 ?_
  refine g_iadd lk_171_16 ?_
  refine g_istore_n (ls' := [(0, (s : Int)), (0, (((((((((0 + (pm_and (pm_shr (s : Int) 0) 1)) + (pm_and (pm_shr (s : Int) 1) 1)) + (pm_and (pm_shr (s : Int) 2) 1)) + (pm_and (pm_shr (s : Int) 3) 1)) + (pm_and (pm_shr (s : Int) 4) 1)) + (pm_and (pm_shr (s : Int) 5) 1)) + (pm_and (pm_shr (s : Int) 6) 1)) + (pm_and (pm_shr (s : Int) 7) 1)) + (pm_and (pm_shr (s : Int) 8) 1))), (0, 8)]) lk_171_17 rfl rfl ?_
  refine g_iinc (ls' := [(0, (s : Int)), (0, (((((((((0 + (pm_and (pm_shr (s : Int) 0) 1)) + (pm_and (pm_shr (s : Int) 1) 1)) + (pm_and (pm_shr (s : Int) 2) 1)) + (pm_and (pm_shr (s : Int) 3) 1)) + (pm_and (pm_shr (s : Int) 4) 1)) + (pm_and (pm_shr (s : Int) 5) 1)) + (pm_and (pm_shr (s : Int) 6) 1)) + (pm_and (pm_shr (s : Int) 7) 1)) + (pm_and (pm_shr (s : Int) 8) 1))), (0, 9)]) lk_171_18 rfl rfl rfl ?_
  refine g_goto (t := 4) lk_171_21 rfl ?_
  refine g_iload_n lk_171_4 rfl ?_
  refine g_bipush lk_171_5 ?_
  refine g_icmp (t := 24) lk_171_7 rfl (by first | (unfold pm_inI; omega) | exact pm_and_in _ _ | exact pm_shr_in _ _ | exact pm_or_in _ _ | exact pm_xor_in _ _ | exact pm_shl_in _ _ | exact pm_cmp_in _ _ | exact pm_b8_in _ | (unfold pm_inI; split <;> omega)) (by first | (unfold pm_inI; omega) | exact pm_and_in _ _ | exact pm_shr_in _ _ | exact pm_or_in _ _ | exact pm_xor_in _ _ | exact pm_shl_in _ _ | exact pm_cmp_in _ _ | exact pm_b8_in _ | (unfold pm_inI; split <;> omega)) (fun h => absurd h (show ¬ ((12 : Int) ≤ (9 : Int)) by omega)) (fun _ => ?_)
  refine g_iload_n lk_171_10 rfl ?_
  refine g_iload_n lk_171_11 rfl ?_
  refine g_iload_n lk_171_12 rfl ?_
  refine g_ishr lk_171_13 ?_
  refine g_iconst lk_171_14 ?_
  refine g_iand lk_171_15 ?_
  refine g_iadd lk_171_16 ?_
  refine g_istore_n (ls' := [(0, (s : Int)), (0, ((((((((((0 + (pm_and (pm_shr (s : Int) 0) 1)) + (pm_and (pm_shr (s : Int) 1) 1)) + (pm_and (pm_shr (s : Int) 2) 1)) + (pm_and (pm_shr (s : Int) 3) 1)) + (pm_and (pm_shr (s : Int) 4) 1)) + (pm_and (pm_shr (s : Int) 5) 1)) + (pm_and (pm_shr (s : Int) 6) 1)) + (pm_and (pm_shr (s : Int) 7) 1)) + (pm_and (pm_shr (s : Int) 8) 1)) + (pm_and (pm_shr (s : Int) 9) 1))), (0, 9)]) lk_171_17 rfl rfl ?_
  refine g_iinc (ls' := [(0, (s : Int)), (0, ((((((((((0 + (pm_and (pm_shr (s : Int) 0) 1)) + (pm_and (pm_shr (s : Int) 1) 1)) + (pm_and (pm_shr (s : Int) 2) 1)) + (pm_and (pm_shr (s : Int) 3) 1)) + (pm_and (pm_shr (s : Int) 4) 1)) + (pm_and (pm_shr (s : Int) 5) 1)) + (pm_and (pm_shr (s : Int) 6) 1)) + (pm_and (pm_shr (s : Int) 7) 1)) + (pm_and (pm_shr (s : Int) 8) 1)) + (pm_and (pm_shr (s : Int) 9) 1))), (0, 10)]) lk_171_18 rfl rfl rfl ?_
  refine g_goto (t := 4) lk_171_21 rfl ?_
  refine g_iload_n lk_171_4 rfl ?_
  refine g_bipush lk_171_5 ?_
  refine g_icmp (t := 24) lk_171_7 rfl (by first | (unfold pm_inI; omega) | exact pm_and_in _ _ | exact pm_shr_in _ _ | exact pm_or_in _ _ | exact pm_xor_in _ _ | exact pm_shl_in _ _ | exact pm_cmp_in _ _ | exact pm_b8_in _ | (unfold pm_inI; split <;> omega)) (by first | (unfold pm_inI; omega) | exact pm_and_in _ _ | exact pm_shr_in _ _ | exact pm_or_in _ _ | exact pm_xor_in _ _ | exact pm_shl_in _ _ | exact pm_cmp_in _ _ | exact pm_b8_in _ | (unfold pm_inI; split <;> omega)) (fun h => absurd h (show ¬ ((12 : Int) ≤ (10 : Int)) by omega)) (fun _ => ?_)
  refine g_iload_n lk_171_10 rfl ?_
  refine g_iload_n lk_171_11 rfl ?_
  refine g_iload_n lk_171_12 rfl ?_
  refine g_ishr lk_171_13 ?_
  refine g_iconst lk_171_14 ?_
  refine g_iand lk_171_15 ?_
  refine g_iadd lk_171_16 ?_
  refine g_istore_n (ls' := [(0, (s : Int)), (0, (((((((((((0 + (pm_and (pm_shr (s : Int) 0) 1)) + (pm_and (pm_shr (s : Int) 1) 1)) + (pm_and (pm_shr (s : Int) 2) 1)) + (pm_and (pm_shr (s : Int) 3) 1)) + (pm_and (pm_shr (s : Int) 4) 1)) + (pm_and (pm_shr (s : Int) 5) 1)) + (pm_and (pm_shr (s : Int) 6) 1)) + (pm_and (pm_shr (s : Int) 7) 1)) + (pm_and (pm_shr (s : Int) 8) 1)) + (pm_and (pm_shr (s : Int) 9) 1)) + (pm_and (pm_shr (s : Int) 10) 1))), (0, 10)]) lk_171_17 rfl rfl ?_
  refine g_iinc (ls' := [(0, (s : Int)), (0, (((((((((((0 + (pm_and (pm_shr (s : Int) 0) 1)) + (pm_and (pm_shr (s : Int) 1) 1)) + (pm_and (pm_shr (s : Int) 2) 1)) + (pm_and (pm_shr (s : Int) 3) 1)) + (pm_and (pm_shr (s : Int) 4) 1)) + (pm_and (pm_shr (s : Int) 5) 1)) + (pm_and (pm_shr (s : Int) 6) 1)) + (pm_and (pm_shr (s : Int) 7) 1)) + (pm_and (pm_shr (s : Int) 8) 1)) + (pm_and (pm_shr (s : Int) 9) 1)) + (pm_and (pm_shr (s : Int) 10) 1))), (0, 11)]) lk_171_18 rfl rfl rfl ?_
  refine g_goto (t := 4) lk_171_21 rfl ?_
  refine g_iload_n lk_171_4 rfl ?_
  refine g_bipush lk_171_5 ?_
  refine g_icmp (t := 24) lk_171_7 rfl (by first | (unfold pm_inI; omega) | exact pm_and_in _ _ | exact pm_shr_in _ _ | exact pm_or_in _ _ | exact pm_xor_in _ _ | exact pm_shl_in _ _ | exact pm_cmp_in _ _ | exact pm_b8_in _ | (unfold pm_inI; split <;> omega)) (by first | (unfold pm_inI; omega) | exact pm_and_in _ _ | exact pm_shr_in _ _ | exact pm_or_in _ _ | exact pm_xor_in _ _ | exact pm_shl_in _ _ | exact pm_cmp_in _ _ | exact pm_b8_in _ | (unfold pm_inI; split <;> omega)) (fun h => absurd h (show ¬ ((12 : Int) ≤ (11 : Int)) by omega)) (fun _ => ?_)
  refine g_iload_n lk_171_10 rfl ?_
  refine g_iload_n lk_171_11 rfl ?_
  refine g_iload_n lk_171_12 rfl ?_
  refine g_ishr lk_171_13 ?_
  refine g_iconst lk_171_14 ?_
  refine g_iand lk_171_15 ?_
  refine g_iadd lk_171_16 ?_
  refine g_istore_n (ls' := [(0, (s : Int)), (0, ((((((((((((0 + (pm_and (pm_shr (s : Int) 0) 1)) + (pm_and (pm_shr (s : Int) 1) 1)) + (pm_and (pm_shr (s : Int) 2) 1)) + (pm_and (pm_shr (s : Int) 3) 1)) + (pm_and (pm_shr (s : Int) 4) 1)) + (pm_and (pm_shr (s : Int) 5) 1)) + (pm_and (pm_shr (s : Int) 6) 1)) + (pm_and (pm_shr (s : Int) 7) 1)) + (pm_and (pm_shr (s : Int) 8) 1)) + (pm_and (pm_shr (s : Int) 9) 1)) + (pm_and (pm_shr (s : Int) 10) 1)) + (pm_and (pm_shr (s : Int) 11) 1))), (0, 11)]) lk_171_17 rfl rfl ?_
  refine g_iinc (ls' := [(0, (s : Int)), (0, ((((((((((((0 + (pm_and (pm_shr (s : Int) 0) 1)) + (pm_and (pm_shr (s : Int) 1) 1)) + (pm_and (pm_shr (s : Int) 2) 1)) + (pm_and (pm_shr (s : Int) 3) 1)) + (pm_and (pm_shr (s : Int) 4) 1)) + (pm_and (pm_shr (s : Int) 5) 1)) + (pm_and (pm_shr (s : Int) 6) 1)) + (pm_and (pm_shr (s : Int) 7) 1)) + (pm_and (pm_shr (s : Int) 8) 1)) + (pm_and (pm_shr (s : Int) 9) 1)) + (pm_and (pm_shr (s : Int) 10) 1)) + (pm_and (pm_shr (s : Int) 11) 1))), (0, 12)]) lk_171_18 rfl rfl rfl ?_
  refine g_goto (t := 4) lk_171_21 rfl ?_
  refine g_iload_n lk_171_4 rfl ?_
  refine g_bipush lk_171_5 ?_
  refine g_icmp (t := 24) lk_171_7 rfl (by first | (unfold pm_inI; omega) | exact pm_and_in _ _ | exact pm_shr_in _ _ | exact pm_or_in _ _ | exact pm_xor_in _ _ | exact pm_shl_in _ _ | exact pm_cmp_in _ _ | exact pm_b8_in _ | (unfold pm_inI; split <;> omega)) (by first | (unfold pm_inI; omega) | exact pm_and_in _ _ | exact pm_shr_in _ _ | exact pm_or_in _ _ | exact pm_xor_in _ _ | exact pm_shl_in _ _ | exact pm_cmp_in _ _ | exact pm_b8_in _ | (unfold pm_inI; split <;> omega)) (fun _ => ?_) (fun h => absurd (show (12 : Int) ≤ (12 : Int) by omega) h)
  refine g_iload_n lk_171_24 rfl ?_
  refine g_ireturn lk_171_25 (fun h => absurd h (by decide)) ?_
  refine ⟨?_, rfl⟩
  rw [b0, b1, b2, b3, b4, b5, b6, b7, b8, b9, b10, b11, pop_bt]
  congr 2 <;> omega
/-- how many cells of an area have a value -/
def cRow (T : Tab) (rs cs v r : Nat) (a : Nat) (n : Nat) : Nat := (List.range n).foldl (fun a c => if rs.testBit r && cs.testBit c && tX T (6 * r + c) == v then a + 1 else a) a
def cAll (T : Tab) (rs cs v : Nat) (n : Nat) : Nat := (List.range n).foldl (fun a r => cRow T rs cs v r a (tC T)) 0
def cIn (T : Tab) (rs cs v : Nat) : Nat := cAll T rs cs v (tR T)
theorem cRow_s (T : Tab) (rs cs v r a n : Nat) : cRow T rs cs v r a (n + 1) = if rs.testBit r && cs.testBit n && tX T (6 * r + n) == v then cRow T rs cs v r a n + 1 else cRow T rs cs v r a n := fo_succ _ _ _
theorem cAll_s (T : Tab) (rs cs v n : Nat) : cAll T rs cs v (n + 1) = cRow T rs cs v n (cAll T rs cs v n) (tC T) := fo_succ _ _ _
theorem cRow_le (T : Tab) (rs cs v r a n : Nat) : cRow T rs cs v r a n ≤ a + n := by
  induction n with
  | zero => exact Nat.le_refl _
  | succ n ih => rw [cRow_s]; split <;> omega
theorem cAll_le {T : Tab} (hT : TabOK T) (rs cs v n : Nat) : cAll T rs cs v n ≤ 6 * n := by
  induction n with
  | zero => exact Nat.le_refl _
  | succ n ih => rw [cAll_s]; have := cRow_le T rs cs v n (cAll T rs cs v n) (tC T); have := hT.2.1; omega
set_option maxHeartbeats 4000000 in
theorem c_Mo_countIn {d mc ms : Nat} {M : pm_M} (lay : Lay M) {T : Tab} (hT : TabOK T) (hM : MoAt M T) {rs cs v : Nat} (hrs : rs < 64) (hcs : cs < 64) (hv : v < 11) :
    pm_E (d + 1) 201 [(2, ((116 : Nat) : Int)), (0, (rs : Int)), (0, (cs : Int)), (0, (v : Int))] M mc ms (fun ρ M' => ρ = some (0, (cIn T rs cs v : Int)) ∧ M' = M) := by
  obtain ⟨Q, hQ⟩ : ∃ Q : pm_Q, Q = (fun ρ M' => ρ = some (0, (cIn T rs cs v : Int)) ∧ M' = M) := ⟨_, rfl⟩
  rw [← hQ]
  have hR := hT.1
  have hC := hT.2.1
  have inner : ∀ (n r c a0 : Nat), c + n = tC T → r < tR T → Wp (d + 1) 201 6 [(2, ((116 : Nat) : Int)), (0, (rs : Int)), (0, (cs : Int)), (0, (v : Int)), (0, ((cRow T rs cs v r a0 (tC T) : Nat) : Int)), (0, ((r + 1 : Nat) : Int)), (0, (tC T : Int))] [] M mc ms Q →
      Wp (d + 1) 201 18 [(2, ((116 : Nat) : Int)), (0, (rs : Int)), (0, (cs : Int)), (0, (v : Int)), (0, ((cRow T rs cs v r a0 c : Nat) : Int)), (0, (r : Int)), (0, (c : Int))] [] M mc ms Q := by
    intro n
    induction n with
    | zero =>
      intro r c a0 hc hr k
      refine g_iload lk_201_18 rfl ?_
      refine g_aload_n lk_201_20 rfl ?_
      refine m_getfield (u := []) (M := M) lk_201_21 rfl (lay.on (by decide) rfl) (v := (tC T : Int)) hM.2.1 ?_
      refine g_icmp (t := 73) lk_201_24 rfl (by first | (unfold pm_inI; omega) | exact pm_and_in _ _ | exact pm_shr_in _ _ | exact pm_or_in _ _ | exact pm_xor_in _ _ | exact pm_shl_in _ _ | exact pm_cmp_in _ _ | exact pm_b8_in _ | (unfold pm_inI; split <;> omega)) (by first | (unfold pm_inI; omega) | exact pm_and_in _ _ | exact pm_shr_in _ _ | exact pm_or_in _ _ | exact pm_xor_in _ _ | exact pm_shl_in _ _ | exact pm_cmp_in _ _ | exact pm_b8_in _ | (unfold pm_inI; split <;> omega)) (fun h1 => ?_) (fun h1 => ?_)
      · replace h1 : (tC T : Int) ≤ (c : Int) := h1
        refine g_iinc (ls' := [(2, ((116 : Nat) : Int)), (0, (rs : Int)), (0, (cs : Int)), (0, (v : Int)), (0, ((cRow T rs cs v r a0 c : Nat) : Int)), (0, ((r : Int) + 1)), (0, (c : Int))]) lk_201_73 rfl rfl rfl ?_
        refine g_goto (t := 6) lk_201_76 rfl ?_
        rw [show c = tC T by omega]
        exact k
      · replace h1 : ¬ ((tC T : Int) ≤ (c : Int)) := h1
        refine g_iload lk_201_27 rfl ?_
        refine g_iload_n lk_201_29 rfl ?_
        refine g_iload lk_201_30 rfl ?_
        refine g_static (Qc := _) lk_201_32 (by decide) rfl (Nat.le_of_ble_eq_true rfl) rfl rfl (Nat.le_of_ble_eq_true rfl) (Nat.le_of_ble_eq_true rfl) (Nat.zero_le _) (Nat.zero_le _) (c_Mo_isOf (by omega) (by omega)) ?_
        rintro _ N2 ⟨rfl, hN2⟩
        rw [hN2]
        show Wp _ 201 35 [(2, ((116 : Nat) : Int)), (0, (rs : Int)), (0, (cs : Int)), (0, (v : Int)), (0, ((cRow T rs cs v r a0 c : Nat) : Int)), (0, (r : Int)), (0, (c : Int))] [(0, (if Nat.testBit rs r then (1 : Int) else 0)), (0, ((cRow T rs cs v r a0 c : Nat) : Int))] M _ _ _
        refine g_if (t := 63) lk_201_35 rfl (by first | (unfold pm_inI; omega) | exact pm_and_in _ _ | exact pm_shr_in _ _ | exact pm_or_in _ _ | exact pm_xor_in _ _ | exact pm_shl_in _ _ | exact pm_cmp_in _ _ | exact pm_b8_in _ | (unfold pm_inI; split <;> omega)) (fun h3 => ?_) (fun h3 => ?_)
        · replace h3 : (if Nat.testBit rs r then (1 : Int) else 0) = 0 := h3
          refine g_iconst lk_201_63 ?_
          refine g_iadd lk_201_64 ?_
          refine g_istore (ls' := [(2, ((116 : Nat) : Int)), (0, (rs : Int)), (0, (cs : Int)), (0, (v : Int)), (0, (((cRow T rs cs v r a0 c : Nat) : Int) + 0)), (0, (r : Int)), (0, (c : Int))]) lk_201_65 rfl rfl ?_
          refine g_iinc (ls' := [(2, ((116 : Nat) : Int)), (0, (rs : Int)), (0, (cs : Int)), (0, (v : Int)), (0, (((cRow T rs cs v r a0 c : Nat) : Int) + 0)), (0, (r : Int)), (0, ((c : Int) + 1))]) lk_201_67 rfl rfl rfl ?_
          refine g_goto (t := 18) lk_201_70 rfl ?_
          omega
        · replace h3 : ¬ ((if Nat.testBit rs r then (1 : Int) else 0) = 0) := h3
          refine g_iload_n lk_201_38 rfl ?_
          refine g_iload lk_201_39 rfl ?_
          refine g_static (Qc := _) lk_201_41 (by decide) rfl (Nat.le_of_ble_eq_true rfl) rfl rfl (Nat.le_of_ble_eq_true rfl) (Nat.le_of_ble_eq_true rfl) (Nat.zero_le _) (Nat.zero_le _) (c_Mo_isOf (by omega) (by omega)) ?_
          rintro _ N4 ⟨rfl, hN4⟩
          rw [hN4]
          show Wp _ 201 44 [(2, ((116 : Nat) : Int)), (0, (rs : Int)), (0, (cs : Int)), (0, (v : Int)), (0, ((cRow T rs cs v r a0 c : Nat) : Int)), (0, (r : Int)), (0, (c : Int))] [(0, (if Nat.testBit cs c then (1 : Int) else 0)), (0, ((cRow T rs cs v r a0 c : Nat) : Int))] M _ _ _
          refine g_if (t := 63) lk_201_44 rfl (by first | (unfold pm_inI; omega) | exact pm_and_in _ _ | exact pm_shr_in _ _ | exact pm_or_in _ _ | exact pm_xor_in _ _ | exact pm_shl_in _ _ | exact pm_cmp_in _ _ | exact pm_b8_in _ | (unfold pm_inI; split <;> omega)) (fun h5 => ?_) (fun h5 => ?_)
          · replace h5 : (if Nat.testBit cs c then (1 : Int) else 0) = 0 := h5
            refine g_iconst lk_201_63 ?_
            refine g_iadd lk_201_64 ?_
            refine g_istore (ls' := [(2, ((116 : Nat) : Int)), (0, (rs : Int)), (0, (cs : Int)), (0, (v : Int)), (0, (((cRow T rs cs v r a0 c : Nat) : Int) + 0)), (0, (r : Int)), (0, (c : Int))]) lk_201_65 rfl rfl ?_
            refine g_iinc (ls' := [(2, ((116 : Nat) : Int)), (0, (rs : Int)), (0, (cs : Int)), (0, (v : Int)), (0, (((cRow T rs cs v r a0 c : Nat) : Int) + 0)), (0, (r : Int)), (0, ((c : Int) + 1))]) lk_201_67 rfl rfl rfl ?_
            refine g_goto (t := 18) lk_201_70 rfl ?_
            omega
          · replace h5 : ¬ ((if Nat.testBit cs c then (1 : Int) else 0) = 0) := h5
            refine g_aload_n lk_201_47 rfl ?_
            refine g_iload lk_201_48 rfl ?_
            refine g_iload lk_201_50 rfl ?_
            refine g_virtual (p := 116) (Qc := _) lk_201_52 rfl (Nat.le_of_ble_eq_true rfl) rfl rfl (lay.on (by decide) rfl) (Nat.le_of_ble_eq_true rfl) (Nat.le_of_ble_eq_true rfl) (Nat.zero_le _) (Nat.zero_le _) (c_Mo_cellAt lay hM (by omega) (by omega)) ?_
            rintro _ N6 ⟨rfl, hN6⟩
            rw [hN6]
            show Wp _ 201 55 [(2, ((116 : Nat) : Int)), (0, (rs : Int)), (0, (cs : Int)), (0, (v : Int)), (0, ((cRow T rs cs v r a0 c : Nat) : Int)), (0, (r : Int)), (0, (c : Int))] [(0, (tX T (6 * r + c) : Int)), (0, ((cRow T rs cs v r a0 c : Nat) : Int))] M _ _ _
            refine g_iload_n lk_201_55 rfl ?_
            refine g_icmp (t := 63) lk_201_56 rfl (by first | (unfold pm_inI; omega) | exact pm_and_in _ _ | exact pm_shr_in _ _ | exact pm_or_in _ _ | exact pm_xor_in _ _ | exact pm_shl_in _ _ | exact pm_cmp_in _ _ | exact pm_b8_in _ | (unfold pm_inI; split <;> omega)) (by first | (unfold pm_inI; omega) | exact pm_and_in _ _ | exact pm_shr_in _ _ | exact pm_or_in _ _ | exact pm_xor_in _ _ | exact pm_shl_in _ _ | exact pm_cmp_in _ _ | exact pm_b8_in _ | (unfold pm_inI; split <;> omega)) (fun h7 => ?_) (fun h7 => ?_)
            · replace h7 : ¬ (tX T (6 * r + c) : Int) = (v : Int) := h7
              refine g_iconst lk_201_63 ?_
              refine g_iadd lk_201_64 ?_
              refine g_istore (ls' := [(2, ((116 : Nat) : Int)), (0, (rs : Int)), (0, (cs : Int)), (0, (v : Int)), (0, (((cRow T rs cs v r a0 c : Nat) : Int) + 0)), (0, (r : Int)), (0, (c : Int))]) lk_201_65 rfl rfl ?_
              refine g_iinc (ls' := [(2, ((116 : Nat) : Int)), (0, (rs : Int)), (0, (cs : Int)), (0, (v : Int)), (0, (((cRow T rs cs v r a0 c : Nat) : Int) + 0)), (0, (r : Int)), (0, ((c : Int) + 1))]) lk_201_67 rfl rfl rfl ?_
              refine g_goto (t := 18) lk_201_70 rfl ?_
              omega
            · replace h7 : ¬ (¬ (tX T (6 * r + c) : Int) = (v : Int)) := h7
              refine g_iconst lk_201_59 ?_
              refine g_goto (t := 64) lk_201_60 rfl ?_
              refine g_iadd lk_201_64 ?_
              refine g_istore (ls' := [(2, ((116 : Nat) : Int)), (0, (rs : Int)), (0, (cs : Int)), (0, (v : Int)), (0, (((cRow T rs cs v r a0 c : Nat) : Int) + 1)), (0, (r : Int)), (0, (c : Int))]) lk_201_65 rfl rfl ?_
              refine g_iinc (ls' := [(2, ((116 : Nat) : Int)), (0, (rs : Int)), (0, (cs : Int)), (0, (v : Int)), (0, (((cRow T rs cs v r a0 c : Nat) : Int) + 1)), (0, (r : Int)), (0, ((c : Int) + 1))]) lk_201_67 rfl rfl rfl ?_
              refine g_goto (t := 18) lk_201_70 rfl ?_
              omega
    | succ n ih =>
      intro r c a0 hc hr k
      have hx := hT.2.2.1 (6 * r + c)
      have e := cRow_s T rs cs v r a0 c
      refine g_iload lk_201_18 rfl ?_
      refine g_aload_n lk_201_20 rfl ?_
      refine m_getfield (u := []) (M := M) lk_201_21 rfl (lay.on (by decide) rfl) (v := (tC T : Int)) hM.2.1 ?_
      refine g_icmp (t := 73) lk_201_24 rfl (by first | (unfold pm_inI; omega) | exact pm_and_in _ _ | exact pm_shr_in _ _ | exact pm_or_in _ _ | exact pm_xor_in _ _ | exact pm_shl_in _ _ | exact pm_cmp_in _ _ | exact pm_b8_in _ | (unfold pm_inI; split <;> omega)) (by first | (unfold pm_inI; omega) | exact pm_and_in _ _ | exact pm_shr_in _ _ | exact pm_or_in _ _ | exact pm_xor_in _ _ | exact pm_shl_in _ _ | exact pm_cmp_in _ _ | exact pm_b8_in _ | (unfold pm_inI; split <;> omega)) (fun h1 => ?_) (fun h1 => ?_)
      · replace h1 : (tC T : Int) ≤ (c : Int) := h1
        refine g_iinc (ls' := [(2, ((116 : Nat) : Int)), (0, (rs : Int)), (0, (cs : Int)), (0, (v : Int)), (0, ((cRow T rs cs v r a0 c : Nat) : Int)), (0, ((r : Int) + 1)), (0, (c : Int))]) lk_201_73 rfl rfl rfl ?_
        refine g_goto (t := 6) lk_201_76 rfl ?_
        omega
      · replace h1 : ¬ ((tC T : Int) ≤ (c : Int)) := h1
        refine g_iload lk_201_27 rfl ?_
        refine g_iload_n lk_201_29 rfl ?_
        refine g_iload lk_201_30 rfl ?_
        refine g_static (Qc := _) lk_201_32 (by decide) rfl (Nat.le_of_ble_eq_true rfl) rfl rfl (Nat.le_of_ble_eq_true rfl) (Nat.le_of_ble_eq_true rfl) (Nat.zero_le _) (Nat.zero_le _) (c_Mo_isOf (by omega) (by omega)) ?_
        rintro _ N2 ⟨rfl, hN2⟩
        rw [hN2]
        show Wp _ 201 35 [(2, ((116 : Nat) : Int)), (0, (rs : Int)), (0, (cs : Int)), (0, (v : Int)), (0, ((cRow T rs cs v r a0 c : Nat) : Int)), (0, (r : Int)), (0, (c : Int))] [(0, (if Nat.testBit rs r then (1 : Int) else 0)), (0, ((cRow T rs cs v r a0 c : Nat) : Int))] M _ _ _
        refine g_if (t := 63) lk_201_35 rfl (by first | (unfold pm_inI; omega) | exact pm_and_in _ _ | exact pm_shr_in _ _ | exact pm_or_in _ _ | exact pm_xor_in _ _ | exact pm_shl_in _ _ | exact pm_cmp_in _ _ | exact pm_b8_in _ | (unfold pm_inI; split <;> omega)) (fun h3 => ?_) (fun h3 => ?_)
        · replace h3 : (if Nat.testBit rs r then (1 : Int) else 0) = 0 := h3
          refine g_iconst lk_201_63 ?_
          refine g_iadd lk_201_64 ?_
          refine g_istore (ls' := [(2, ((116 : Nat) : Int)), (0, (rs : Int)), (0, (cs : Int)), (0, (v : Int)), (0, (((cRow T rs cs v r a0 c : Nat) : Int) + 0)), (0, (r : Int)), (0, (c : Int))]) lk_201_65 rfl rfl ?_
          refine g_iinc (ls' := [(2, ((116 : Nat) : Int)), (0, (rs : Int)), (0, (cs : Int)), (0, (v : Int)), (0, (((cRow T rs cs v r a0 c : Nat) : Int) + 0)), (0, (r : Int)), (0, ((c : Int) + 1))]) lk_201_67 rfl rfl rfl ?_
          refine g_goto (t := 18) lk_201_70 rfl ?_
          rw [if_neg (by simp_all)] at e
          rw [Int.add_zero, ← e]
          exact ih r (c + 1) a0 (by omega) hr k
        · replace h3 : ¬ ((if Nat.testBit rs r then (1 : Int) else 0) = 0) := h3
          refine g_iload_n lk_201_38 rfl ?_
          refine g_iload lk_201_39 rfl ?_
          refine g_static (Qc := _) lk_201_41 (by decide) rfl (Nat.le_of_ble_eq_true rfl) rfl rfl (Nat.le_of_ble_eq_true rfl) (Nat.le_of_ble_eq_true rfl) (Nat.zero_le _) (Nat.zero_le _) (c_Mo_isOf (by omega) (by omega)) ?_
          rintro _ N4 ⟨rfl, hN4⟩
          rw [hN4]
          show Wp _ 201 44 [(2, ((116 : Nat) : Int)), (0, (rs : Int)), (0, (cs : Int)), (0, (v : Int)), (0, ((cRow T rs cs v r a0 c : Nat) : Int)), (0, (r : Int)), (0, (c : Int))] [(0, (if Nat.testBit cs c then (1 : Int) else 0)), (0, ((cRow T rs cs v r a0 c : Nat) : Int))] M _ _ _
          refine g_if (t := 63) lk_201_44 rfl (by first | (unfold pm_inI; omega) | exact pm_and_in _ _ | exact pm_shr_in _ _ | exact pm_or_in _ _ | exact pm_xor_in _ _ | exact pm_shl_in _ _ | exact pm_cmp_in _ _ | exact pm_b8_in _ | (unfold pm_inI; split <;> omega)) (fun h5 => ?_) (fun h5 => ?_)
          · replace h5 : (if Nat.testBit cs c then (1 : Int) else 0) = 0 := h5
            refine g_iconst lk_201_63 ?_
            refine g_iadd lk_201_64 ?_
            refine g_istore (ls' := [(2, ((116 : Nat) : Int)), (0, (rs : Int)), (0, (cs : Int)), (0, (v : Int)), (0, (((cRow T rs cs v r a0 c : Nat) : Int) + 0)), (0, (r : Int)), (0, (c : Int))]) lk_201_65 rfl rfl ?_
            refine g_iinc (ls' := [(2, ((116 : Nat) : Int)), (0, (rs : Int)), (0, (cs : Int)), (0, (v : Int)), (0, (((cRow T rs cs v r a0 c : Nat) : Int) + 0)), (0, (r : Int)), (0, ((c : Int) + 1))]) lk_201_67 rfl rfl rfl ?_
            refine g_goto (t := 18) lk_201_70 rfl ?_
            rw [if_neg (by simp_all)] at e
            rw [Int.add_zero, ← e]
            exact ih r (c + 1) a0 (by omega) hr k
          · replace h5 : ¬ ((if Nat.testBit cs c then (1 : Int) else 0) = 0) := h5
            refine g_aload_n lk_201_47 rfl ?_
            refine g_iload lk_201_48 rfl ?_
            refine g_iload lk_201_50 rfl ?_
            refine g_virtual (p := 116) (Qc := _) lk_201_52 rfl (Nat.le_of_ble_eq_true rfl) rfl rfl (lay.on (by decide) rfl) (Nat.le_of_ble_eq_true rfl) (Nat.le_of_ble_eq_true rfl) (Nat.zero_le _) (Nat.zero_le _) (c_Mo_cellAt lay hM (by omega) (by omega)) ?_
            rintro _ N6 ⟨rfl, hN6⟩
            rw [hN6]
            show Wp _ 201 55 [(2, ((116 : Nat) : Int)), (0, (rs : Int)), (0, (cs : Int)), (0, (v : Int)), (0, ((cRow T rs cs v r a0 c : Nat) : Int)), (0, (r : Int)), (0, (c : Int))] [(0, (tX T (6 * r + c) : Int)), (0, ((cRow T rs cs v r a0 c : Nat) : Int))] M _ _ _
            refine g_iload_n lk_201_55 rfl ?_
            refine g_icmp (t := 63) lk_201_56 rfl (by first | (unfold pm_inI; omega) | exact pm_and_in _ _ | exact pm_shr_in _ _ | exact pm_or_in _ _ | exact pm_xor_in _ _ | exact pm_shl_in _ _ | exact pm_cmp_in _ _ | exact pm_b8_in _ | (unfold pm_inI; split <;> omega)) (by first | (unfold pm_inI; omega) | exact pm_and_in _ _ | exact pm_shr_in _ _ | exact pm_or_in _ _ | exact pm_xor_in _ _ | exact pm_shl_in _ _ | exact pm_cmp_in _ _ | exact pm_b8_in _ | (unfold pm_inI; split <;> omega)) (fun h7 => ?_) (fun h7 => ?_)
            · replace h7 : ¬ (tX T (6 * r + c) : Int) = (v : Int) := h7
              refine g_iconst lk_201_63 ?_
              refine g_iadd lk_201_64 ?_
              refine g_istore (ls' := [(2, ((116 : Nat) : Int)), (0, (rs : Int)), (0, (cs : Int)), (0, (v : Int)), (0, (((cRow T rs cs v r a0 c : Nat) : Int) + 0)), (0, (r : Int)), (0, (c : Int))]) lk_201_65 rfl rfl ?_
              refine g_iinc (ls' := [(2, ((116 : Nat) : Int)), (0, (rs : Int)), (0, (cs : Int)), (0, (v : Int)), (0, (((cRow T rs cs v r a0 c : Nat) : Int) + 0)), (0, (r : Int)), (0, ((c : Int) + 1))]) lk_201_67 rfl rfl rfl ?_
              refine g_goto (t := 18) lk_201_70 rfl ?_
              rw [if_neg (by simp_all; omega)] at e
              rw [Int.add_zero, ← e]
              exact ih r (c + 1) a0 (by omega) hr k
            · replace h7 : ¬ (¬ (tX T (6 * r + c) : Int) = (v : Int)) := h7
              refine g_iconst lk_201_59 ?_
              refine g_goto (t := 64) lk_201_60 rfl ?_
              refine g_iadd lk_201_64 ?_
              refine g_istore (ls' := [(2, ((116 : Nat) : Int)), (0, (rs : Int)), (0, (cs : Int)), (0, (v : Int)), (0, (((cRow T rs cs v r a0 c : Nat) : Int) + 1)), (0, (r : Int)), (0, (c : Int))]) lk_201_65 rfl rfl ?_
              refine g_iinc (ls' := [(2, ((116 : Nat) : Int)), (0, (rs : Int)), (0, (cs : Int)), (0, (v : Int)), (0, (((cRow T rs cs v r a0 c : Nat) : Int) + 1)), (0, (r : Int)), (0, ((c : Int) + 1))]) lk_201_67 rfl rfl rfl ?_
              refine g_goto (t := 18) lk_201_70 rfl ?_
              rw [if_pos (by simp_all; omega)] at e
              rw [show ((cRow T rs cs v r a0 c : Nat) : Int) + 1 = ((cRow T rs cs v r a0 c + 1 : Nat) : Int) from rfl, ← e]
              exact ih r (c + 1) a0 (by omega) hr k
  have outer : ∀ (n r : Nat) (v6 : pm_V), r + n = tR T → Wp (d + 1) 201 6 [(2, ((116 : Nat) : Int)), (0, (rs : Int)), (0, (cs : Int)), (0, (v : Int)), (0, ((cAll T rs cs v r : Nat) : Int)), (0, (r : Int)), v6] [] M mc ms Q := by
    intro n
    induction n with
    | zero =>
      intro r v6 hr
      refine g_iload lk_201_6 rfl ?_
      refine g_aload_n lk_201_8 rfl ?_
      refine m_getfield (u := []) (M := M) lk_201_9 rfl (lay.on (by decide) rfl) (v := (tR T : Int)) hM.1 ?_
      refine g_icmp (t := 79) lk_201_12 rfl (by first | (unfold pm_inI; omega) | exact pm_and_in _ _ | exact pm_shr_in _ _ | exact pm_or_in _ _ | exact pm_xor_in _ _ | exact pm_shl_in _ _ | exact pm_cmp_in _ _ | exact pm_b8_in _ | (unfold pm_inI; split <;> omega)) (by first | (unfold pm_inI; omega) | exact pm_and_in _ _ | exact pm_shr_in _ _ | exact pm_or_in _ _ | exact pm_xor_in _ _ | exact pm_shl_in _ _ | exact pm_cmp_in _ _ | exact pm_b8_in _ | (unfold pm_inI; split <;> omega)) (fun h1 => ?_) (fun h1 => ?_)
      · replace h1 : (tR T : Int) ≤ (r : Int) := h1
        refine g_iload lk_201_79 rfl ?_
        refine g_ireturn lk_201_81 (fun h => absurd h (by decide)) ?_
        rw [hQ]
        refine ⟨?_, rfl⟩
        unfold cIn
        rw [show r = tR T by omega]
      · replace h1 : ¬ ((tR T : Int) ≤ (r : Int)) := h1
        refine g_iconst lk_201_15 ?_
        refine g_istore (ls' := [(2, ((116 : Nat) : Int)), (0, (rs : Int)), (0, (cs : Int)), (0, (v : Int)), (0, ((cAll T rs cs v r : Nat) : Int)), (0, (r : Int)), (0, 0)]) lk_201_16 rfl rfl ?_
        omega
    | succ n ih =>
      intro r v6 hr
      refine g_iload lk_201_6 rfl ?_
      refine g_aload_n lk_201_8 rfl ?_
      refine m_getfield (u := []) (M := M) lk_201_9 rfl (lay.on (by decide) rfl) (v := (tR T : Int)) hM.1 ?_
      refine g_icmp (t := 79) lk_201_12 rfl (by first | (unfold pm_inI; omega) | exact pm_and_in _ _ | exact pm_shr_in _ _ | exact pm_or_in _ _ | exact pm_xor_in _ _ | exact pm_shl_in _ _ | exact pm_cmp_in _ _ | exact pm_b8_in _ | (unfold pm_inI; split <;> omega)) (by first | (unfold pm_inI; omega) | exact pm_and_in _ _ | exact pm_shr_in _ _ | exact pm_or_in _ _ | exact pm_xor_in _ _ | exact pm_shl_in _ _ | exact pm_cmp_in _ _ | exact pm_b8_in _ | (unfold pm_inI; split <;> omega)) (fun h1 => ?_) (fun h1 => ?_)
      · replace h1 : (tR T : Int) ≤ (r : Int) := h1
        refine g_iload lk_201_79 rfl ?_
        refine g_ireturn lk_201_81 (fun h => absurd h (by decide)) ?_
        omega
      · replace h1 : ¬ ((tR T : Int) ≤ (r : Int)) := h1
        refine g_iconst lk_201_15 ?_
        refine g_istore (ls' := [(2, ((116 : Nat) : Int)), (0, (rs : Int)), (0, (cs : Int)), (0, (v : Int)), (0, ((cAll T rs cs v r : Nat) : Int)), (0, (r : Int)), (0, 0)]) lk_201_16 rfl rfl ?_
        exact inner (tC T) r 0 (cAll T rs cs v r) (by omega) (by omega) (by rw [← cAll_s]; exact ih (r + 1) _ (by omega))
  show Wp (d + 1) 201 0 [(2, ((116 : Nat) : Int)), (0, (rs : Int)), (0, (cs : Int)), (0, (v : Int)), (9, 0), (9, 0), (9, 0)] [] M mc ms Q
  refine g_iconst lk_201_0 ?_
  refine g_istore (ls' := [(2, ((116 : Nat) : Int)), (0, (rs : Int)), (0, (cs : Int)), (0, (v : Int)), (0, 0), (9, 0), (9, 0)]) lk_201_1 rfl rfl ?_
  refine g_iconst lk_201_3 ?_
  refine g_istore (ls' := [(2, ((116 : Nat) : Int)), (0, (rs : Int)), (0, (cs : Int)), (0, (v : Int)), (0, 0), (0, 0), (9, 0)]) lk_201_4 rfl rfl ?_
  exact outer (tR T) 0 _ (by omega)
