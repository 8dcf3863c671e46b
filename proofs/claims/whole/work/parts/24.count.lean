/-! ===== bits, countIn, askedIn, filledIn ===== -/
def bt (s k : Nat) : Nat := if s.testBit k then 1 else 0
theorem bt_and {s k : Nat} (hs : s < 2147483648) (hk : k < 32) : pm_and (pm_shr (s : Int) (k : Int)) 1 = (bt s k : Int) := by
  rw [pm_bit hs hk]; unfold bt; split <;> rfl
theorem pop_bt (s : Nat) : pop s = 0 + bt s 0 + bt s 1 + bt s 2 + bt s 3 + bt s 4 + bt s 5 + bt s 6 + bt s 7 + bt s 8 + bt s 9 + bt s 10 + bt s 11 := rfl
set_option maxHeartbeats 4000000 in
theorem c_Mo_bits {d mc ms : Nat} {M : pm_M} {s : Nat} (hs : s < 2147483648) :
    pm_E d 171 [(0, (s : Int))] M mc ms (fun ρ M' => ρ = some (0, (pop s : Int)) ∧ M' = M) := by
  have b0 : pm_and (pm_shr (s : Int) 0) 1 = (bt s 0 : Int) := bt_and (k := 0) hs (by decide)
  have b1 : pm_and (pm_shr (s : Int) 1) 1 = (bt s 1 : Int) := bt_and (k := 1) hs (by decide)
  have b2 : pm_and (pm_shr (s : Int) 2) 1 = (bt s 2 : Int) := bt_and (k := 2) hs (by decide)
  have b3 : pm_and (pm_shr (s : Int) 3) 1 = (bt s 3 : Int) := bt_and (k := 3) hs (by decide)
  have b4 : pm_and (pm_shr (s : Int) 4) 1 = (bt s 4 : Int) := bt_and (k := 4) hs (by decide)
  have b5 : pm_and (pm_shr (s : Int) 5) 1 = (bt s 5 : Int) := bt_and (k := 5) hs (by decide)
  have b6 : pm_and (pm_shr (s : Int) 6) 1 = (bt s 6 : Int) := bt_and (k := 6) hs (by decide)
  have b7 : pm_and (pm_shr (s : Int) 7) 1 = (bt s 7 : Int) := bt_and (k := 7) hs (by decide)
  have b8 : pm_and (pm_shr (s : Int) 8) 1 = (bt s 8 : Int) := bt_and (k := 8) hs (by decide)
  have b9 : pm_and (pm_shr (s : Int) 9) 1 = (bt s 9 : Int) := bt_and (k := 9) hs (by decide)
  have b10 : pm_and (pm_shr (s : Int) 10) 1 = (bt s 10 : Int) := bt_and (k := 10) hs (by decide)
  have b11 : pm_and (pm_shr (s : Int) 11) 1 = (bt s 11 : Int) := bt_and (k := 11) hs (by decide)
  show Wp d 171 0 [(0, (s : Int)), (9, 0), (9, 0)] [] M mc ms _
  refine g_iconst lk_171_0 ?_
  refine g_istore_n (ls' := [(0, (s : Int)), (0, 0), (9, 0)]) lk_171_1 rfl rfl ?_
  refine g_iconst lk_171_2 ?_
  refine g_istore_n (ls' := [(0, (s : Int)), (0, 0), (0, 0)]) lk_171_3 rfl rfl ?_
  refine g_iload_n lk_171_4 rfl ?_
  refine g_bipush lk_171_5 ?_
  refine g_icmp (t := 24) lk_171_7 rfl (by first | (unfold pm_inI; omega) | exact pm_and_in _ _ | exact pm_shr_in _ _ | exact pm_or_in _ _ | exact pm_xor_in _ _ | exact pm_shl_in _ _ | exact pm_cmp_in _ _ | exact pm_b8_in _ | (unfold pm_inI; split <;> omega)) (by first | (unfold pm_inI; omega) | exact pm_and_in _ _ | exact pm_shr_in _ _ | exact pm_or_in _ _ | exact pm_xor_in _ _ | exact pm_shl_in _ _ | exact pm_cmp_in _ _ | exact pm_b8_in _ | (unfold pm_inI; split <;> omega)) (fun h => absurd h (show ¬ (12 ≤ 0) by omega)) (fun _ => ?_)
  refine g_iload_n lk_171_10 rfl ?_
  refine g_iload_n lk_171_11 rfl ?_
  refine g_iload_n lk_171_12 rfl ?_
  refine g_ishr lk_171_13 ?_
  refine g_iconst lk_171_14 ?_
  refine g_iand lk_171_15 ?_
  refine g_iadd lk_171_16 ?_
  refine g_istore_n (ls' := [(0, (s : Int)), (0, (0 + (pm_and (pm_shr (s : Int) 0) 1))), (0, 0)]) lk_171_17 rfl rfl ?_
  refine g_iinc (ls' := [(0, (s : Int)), (0, (0 + (pm_and (pm_shr (s : Int) 0) 1))), (0, 1)]) lk_171_18 rfl rfl rfl ?_
  refine g_goto (t := 4) lk_171_21 rfl ?_
  refine g_iload_n lk_171_4 rfl ?_
  refine g_bipush lk_171_5 ?_
  refine g_icmp (t := 24) lk_171_7 rfl (by first | (unfold pm_inI; omega) | exact pm_and_in _ _ | exact pm_shr_in _ _ | exact pm_or_in _ _ | exact pm_xor_in _ _ | exact pm_shl_in _ _ | exact pm_cmp_in _ _ | exact pm_b8_in _ | (unfold pm_inI; split <;> omega)) (by first | (unfold pm_inI; omega) | exact pm_and_in _ _ | exact pm_shr_in _ _ | exact pm_or_in _ _ | exact pm_xor_in _ _ | exact pm_shl_in _ _ | exact pm_cmp_in _ _ | exact pm_b8_in _ | (unfold pm_inI; split <;> omega)) (fun h => absurd h (show ¬ (12 ≤ 1) by omega)) (fun _ => ?_)
  refine g_iload_n lk_171_10 rfl ?_
  refine g_iload_n lk_171_11 rfl ?_
  refine g_iload_n lk_171_12 rfl ?_
  refine g_ishr lk_171_13 ?_
  refine g_iconst lk_171_14 ?_
  refine g_iand lk_171_15 ?_
  refine g_iadd lk_171_16 ?_
  refine g_istore_n (ls' := [(0, (s : Int)), (0, ((0 + (pm_and (pm_shr (s : Int) 0) 1)) + (pm_and (pm_shr (s : Int) 1) 1))), (0, 1)]) lk_171_17 rfl rfl ?_
  refine g_iinc (ls' := [(0, (s : Int)), (0, ((0 + (pm_and (pm_shr (s : Int) 0) 1)) + (pm_and (pm_shr (s : Int) 1) 1))), (0, 2)]) lk_171_18 rfl rfl rfl ?_
  refine g_goto (t := 4) lk_171_21 rfl ?_
  refine g_iload_n lk_171_4 rfl ?_
  refine g_bipush lk_171_5 ?_
  refine g_icmp (t := 24) lk_171_7 rfl (by first | (unfold pm_inI; omega) | exact pm_and_in _ _ | exact pm_shr_in _ _ | exact pm_or_in _ _ | exact pm_xor_in _ _ | exact pm_shl_in _ _ | exact pm_cmp_in _ _ | exact pm_b8_in _ | (unfold pm_inI; split <;> omega)) (by first | (unfold pm_inI; omega) | exact pm_and_in _ _ | exact pm_shr_in _ _ | exact pm_or_in _ _ | exact pm_xor_in _ _ | exact pm_shl_in _ _ | exact pm_cmp_in _ _ | exact pm_b8_in _ | (unfold pm_inI; split <;> omega)) (fun h => absurd h (show ¬ (12 ≤ 2) by omega)) (fun _ => ?_)
  refine g_iload_n lk_171_10 rfl ?_
  refine g_iload_n lk_171_11 rfl ?_
  refine g_iload_n lk_171_12 rfl ?_
  refine g_ishr lk_171_13 ?_
  refine g_iconst lk_171_14 ?_
  refine g_iand lk_171_15 ?_
  refine g_iadd lk_171_16 ?_
  refine g_istore_n (ls' := [(0, (s : Int)), (0, (((0 + (pm_and (pm_shr (s : Int) 0) 1)) + (pm_and (pm_shr (s : Int) 1) 1)) + (pm_and (pm_shr (s : Int) 2) 1))), (0, 2)]) lk_171_17 rfl rfl ?_
  refine g_iinc (ls' := [(0, (s : Int)), (0, (((0 + (pm_and (pm_shr (s : Int) 0) 1)) + (pm_and (pm_shr (s : Int) 1) 1)) + (pm_and (pm_shr (s : Int) 2) 1))), (0, 3)]) lk_171_18 rfl rfl rfl ?_
  refine g_goto (t := 4) lk_171_21 rfl ?_
  refine g_iload_n lk_171_4 rfl ?_
  refine g_bipush lk_171_5 ?_
  refine g_icmp (t := 24) lk_171_7 rfl (by first | (unfold pm_inI; omega) | exact pm_and_in _ _ | exact pm_shr_in _ _ | exact pm_or_in _ _ | exact pm_xor_in _ _ | exact pm_shl_in _ _ | exact pm_cmp_in _ _ | exact pm_b8_in _ | (unfold pm_inI; split <;> omega)) (by first | (unfold pm_inI; omega) | exact pm_and_in _ _ | exact pm_shr_in _ _ | exact pm_or_in _ _ | exact pm_xor_in _ _ | exact pm_shl_in _ _ | exact pm_cmp_in _ _ | exact pm_b8_in _ | (unfold pm_inI; split <;> omega)) (fun h => absurd h (show ¬ (12 ≤ 3) by omega)) (fun _ => ?_)
  refine g_iload_n lk_171_10 rfl ?_
  refine g_iload_n lk_171_11 rfl ?_
  refine g_iload_n lk_171_12 rfl ?_
  refine g_ishr lk_171_13 ?_
  refine g_iconst lk_171_14 ?_
  refine g_iand lk_171_15 ?_
  refine g_iadd lk_171_16 ?_
  refine g_istore_n (ls' := [(0, (s : Int)), (0, ((((0 + (pm_and (pm_shr (s : Int) 0) 1)) + (pm_and (pm_shr (s : Int) 1) 1)) + (pm_and (pm_shr (s : Int) 2) 1)) + (pm_and (pm_shr (s : Int) 3) 1))), (0, 3)]) lk_171_17 rfl rfl ?_
  refine g_iinc (ls' := [(0, (s : Int)), (0, ((((0 + (pm_and (pm_shr (s : Int) 0) 1)) + (pm_and (pm_shr (s : Int) 1) 1)) + (pm_and (pm_shr (s : Int) 2) 1)) + (pm_and (pm_shr (s : Int) 3) 1))), (0, 4)]) lk_171_18 rfl rfl rfl ?_
  refine g_goto (t := 4) lk_171_21 rfl ?_
  refine g_iload_n lk_171_4 rfl ?_
  refine g_bipush lk_171_5 ?_
  refine g_icmp (t := 24) lk_171_7 rfl (by first | (unfold pm_inI; omega) | exact pm_and_in _ _ | exact pm_shr_in _ _ | exact pm_or_in _ _ | exact pm_xor_in _ _ | exact pm_shl_in _ _ | exact pm_cmp_in _ _ | exact pm_b8_in _ | (unfold pm_inI; split <;> omega)) (by first | (unfold pm_inI; omega) | exact pm_and_in _ _ | exact pm_shr_in _ _ | exact pm_or_in _ _ | exact pm_xor_in _ _ | exact pm_shl_in _ _ | exact pm_cmp_in _ _ | exact pm_b8_in _ | (unfold pm_inI; split <;> omega)) (fun h => absurd h (show ¬ (12 ≤ 4) by omega)) (fun _ => ?_)
  refine g_iload_n lk_171_10 rfl ?_
  refine g_iload_n lk_171_11 rfl ?_
  refine g_iload_n lk_171_12 rfl ?_
  refine g_ishr lk_171_13 ?_
  refine g_iconst lk_171_14 ?_
  refine g_iand lk_171_15 ?_
  refine g_iadd lk_171_16 ?_
  refine g_istore_n (ls' := [(0, (s : Int)), (0, (((((0 + (pm_and (pm_shr (s : Int) 0) 1)) + (pm_and (pm_shr (s : Int) 1) 1)) + (pm_and (pm_shr (s : Int) 2) 1)) + (pm_and (pm_shr (s : Int) 3) 1)) + (pm_and (pm_shr (s : Int) 4) 1))), (0, 4)]) lk_171_17 rfl rfl ?_
  refine g_iinc (ls' := [(0, (s : Int)), (0, (((((0 + (pm_and (pm_shr (s : Int) 0) 1)) + (pm_and (pm_shr (s : Int) 1) 1)) + (pm_and (pm_shr (s : Int) 2) 1)) + (pm_and (pm_shr (s : Int) 3) 1)) + (pm_and (pm_shr (s : Int) 4) 1))), (0, 5)]) lk_171_18 rfl rfl rfl ?_
  refine g_goto (t := 4) lk_171_21 rfl ?_
  refine g_iload_n lk_171_4 rfl ?_
  refine g_bipush lk_171_5 ?_
  refine g_icmp (t := 24) lk_171_7 rfl (by first | (unfold pm_inI; omega) | exact pm_and_in _ _ | exact pm_shr_in _ _ | exact pm_or_in _ _ | exact pm_xor_in _ _ | exact pm_shl_in _ _ | exact pm_cmp_in _ _ | exact pm_b8_in _ | (unfold pm_inI; split <;> omega)) (by first | (unfold pm_inI; omega) | exact pm_and_in _ _ | exact pm_shr_in _ _ | exact pm_or_in _ _ | exact pm_xor_in _ _ | exact pm_shl_in _ _ | exact pm_cmp_in _ _ | exact pm_b8_in _ | (unfold pm_inI; split <;> omega)) (fun h => absurd h (show ¬ (12 ≤ 5) by omega)) (fun _ => ?_)
  refine g_iload_n lk_171_10 rfl ?_
  refine g_iload_n lk_171_11 rfl ?_
  refine g_iload_n lk_171_12 rfl ?_
  refine g_ishr lk_171_13 ?_
  refine g_iconst lk_171_14 ?_
  refine g_iand lk_171_15 ?_
  refine g_iadd lk_171_16 ?_
  refine g_istore_n (ls' := [(0, (s : Int)), (0, ((((((0 + (pm_and (pm_shr (s : Int) 0) 1)) + (pm_and (pm_shr (s : Int) 1) 1)) + (pm_and (pm_shr (s : Int) 2) 1)) + (pm_and (pm_shr (s : Int) 3) 1)) + (pm_and (pm_shr (s : Int) 4) 1)) + (pm_and (pm_shr (s : Int) 5) 1))), (0, 5)]) lk_171_17 rfl rfl ?_
  refine g_iinc (ls' := [(0, (s : Int)), (0, ((((((0 + (pm_and (pm_shr (s : Int) 0) 1)) + (pm_and (pm_shr (s : Int) 1) 1)) + (pm_and (pm_shr (s : Int) 2) 1)) + (pm_and (pm_shr (s : Int) 3) 1)) + (pm_and (pm_shr (s : Int) 4) 1)) + (pm_and (pm_shr (s : Int) 5) 1))), (0, 6)]) lk_171_18 rfl rfl rfl ?_
  refine g_goto (t := 4) lk_171_21 rfl ?_
  refine g_iload_n lk_171_4 rfl ?_
  refine g_bipush lk_171_5 ?_
  refine g_icmp (t := 24) lk_171_7 rfl (by first | (unfold pm_inI; omega) | exact pm_and_in _ _ | exact pm_shr_in _ _ | exact pm_or_in _ _ | exact pm_xor_in _ _ | exact pm_shl_in _ _ | exact pm_cmp_in _ _ | exact pm_b8_in _ | (unfold pm_inI; split <;> omega)) (by first | (unfold pm_inI; omega) | exact pm_and_in _ _ | exact pm_shr_in _ _ | exact pm_or_in _ _ | exact pm_xor_in _ _ | exact pm_shl_in _ _ | exact pm_cmp_in _ _ | exact pm_b8_in _ | (unfold pm_inI; split <;> omega)) (fun h => absurd h (show ¬ (12 ≤ 6) by omega)) (fun _ => ?_)
  refine g_iload_n lk_171_10 rfl ?_
  refine g_iload_n lk_171_11 rfl ?_
  refine g_iload_n lk_171_12 rfl ?_
  refine g_ishr lk_171_13 ?_
  refine g_iconst lk_171_14 ?_
  refine g_iand lk_171_15 ?_
  refine g_iadd lk_171_16 ?_
  refine g_istore_n (ls' := [(0, (s : Int)), (0, (((((((0 + (pm_and (pm_shr (s : Int) 0) 1)) + (pm_and (pm_shr (s : Int) 1) 1)) + (pm_and (pm_shr (s : Int) 2) 1)) + (pm_and (pm_shr (s : Int) 3) 1)) + (pm_and (pm_shr (s : Int) 4) 1)) + (pm_and (pm_shr (s : Int) 5) 1)) + (pm_and (pm_shr (s : Int) 6) 1))), (0, 6)]) lk_171_17 rfl rfl ?_
  refine g_iinc (ls' := [(0, (s : Int)), (0, (((((((0 + (pm_and (pm_shr (s : Int) 0) 1)) + (pm_and (pm_shr (s : Int) 1) 1)) + (pm_and (pm_shr (s : Int) 2) 1)) + (pm_and (pm_shr (s : Int) 3) 1)) + (pm_and (pm_shr (s : Int) 4) 1)) + (pm_and (pm_shr (s : Int) 5) 1)) + (pm_and (pm_shr (s : Int) 6) 1))), (0, 7)]) lk_171_18 rfl rfl rfl ?_
  refine g_goto (t := 4) lk_171_21 rfl ?_
  refine g_iload_n lk_171_4 rfl ?_
  refine g_bipush lk_171_5 ?_
  refine g_icmp (t := 24) lk_171_7 rfl (by first | (unfold pm_inI; omega) | exact pm_and_in _ _ | exact pm_shr_in _ _ | exact pm_or_in _ _ | exact pm_xor_in _ _ | exact pm_shl_in _ _ | exact pm_cmp_in _ _ | exact pm_b8_in _ | (unfold pm_inI; split <;> omega)) (by first | (unfold pm_inI; omega) | exact pm_and_in _ _ | exact pm_shr_in _ _ | exact pm_or_in _ _ | exact pm_xor_in _ _ | exact pm_shl_in _ _ | exact pm_cmp_in _ _ | exact pm_b8_in _ | (unfold pm_inI; split <;> omega)) (fun h => absurd h (show ¬ (12 ≤ 7) by omega)) (fun _ => ?_)
  refine g_iload_n lk_171_10 rfl ?_
  refine g_iload_n lk_171_11 rfl ?_
  refine g_iload_n lk_171_12 rfl ?_
  refine g_ishr lk_171_13 ?_
  refine g_iconst lk_171_14 ?_
  refine g_iand lk_171_15 ?_
  refine g_iadd lk_171_16 ?_
  refine g_istore_n (ls' := [(0, (s : Int)), (0, ((((((((0 + (pm_and (pm_shr (s : Int) 0) 1)) + (pm_and (pm_shr (s : Int) 1) 1)) + (pm_and (pm_shr (s : Int) 2) 1)) + (pm_and (pm_shr (s : Int) 3) 1)) + (pm_and (pm_shr (s : Int) 4) 1)) + (pm_and (pm_shr (s : Int) 5) 1)) + (pm_and (pm_shr (s : Int) 6) 1)) + (pm_and (pm_shr (s : Int) 7) 1))), (0, 7)]) lk_171_17 rfl rfl ?_
  refine g_iinc (ls' := [(0, (s : Int)), (0, ((((((((0 + (pm_and (pm_shr (s : Int) 0) 1)) + (pm_and (pm_shr (s : Int) 1) 1)) + (pm_and (pm_shr (s : Int) 2) 1)) + (pm_and (pm_shr (s : Int) 3) 1)) + (pm_and (pm_shr (s : Int) 4) 1)) + (pm_and (pm_shr (s : Int) 5) 1)) + (pm_and (pm_shr (s : Int) 6) 1)) + (pm_and (pm_shr (s : Int) 7) 1))), (0, 8)]) lk_171_18 rfl rfl rfl ?_
  refine g_goto (t := 4) lk_171_21 rfl ?_
  refine g_iload_n lk_171_4 rfl ?_
  refine g_bipush lk_171_5 ?_
  refine g_icmp (t := 24) lk_171_7 rfl (by first | (unfold pm_inI; omega) | exact pm_and_in _ _ | exact pm_shr_in _ _ | exact pm_or_in _ _ | exact pm_xor_in _ _ | exact pm_shl_in _ _ | exact pm_cmp_in _ _ | exact pm_b8_in _ | (unfold pm_inI; split <;> omega)) (by first | (unfold pm_inI; omega) | exact pm_and_in _ _ | exact pm_shr_in _ _ | exact pm_or_in _ _ | exact pm_xor_in _ _ | exact pm_shl_in _ _ | exact pm_cmp_in _ _ | exact pm_b8_in _ | (unfold pm_inI; split <;> omega)) (fun h => absurd h (show ¬ (12 ≤ 8) by omega)) (fun _ => ?_)
  refine g_iload_n lk_171_10 rfl ?_
  refine g_iload_n lk_171_11 rfl ?_
  refine g_iload_n lk_171_12 rfl ?_
  refine g_ishr lk_171_13 ?_
  refine g_iconst lk_171_14 ?_
  refine g_iand lk_171_15 ?_
  refine g_iadd lk_171_16 ?_
  refine g_istore_n (ls' := [(0, (s : Int)), (0, (((((((((0 + (pm_and (pm_shr (s : Int) 0) 1)) + (pm_and (pm_shr (s : Int) 1) 1)) + (pm_and (pm_shr (s : Int) 2) 1)) + (pm_and (pm_shr (s : Int) 3) 1)) + (pm_and (pm_shr (s : Int) 4) 1)) + (pm_and (pm_shr (s : Int) 5) 1)) + (pm_and (pm_shr (s : Int) 6) 1)) + (pm_and (pm_shr (s : Int) 7) 1)) + (pm_and (pm_shr (s : Int) 8) 1))), (0, 8)]) lk_171_17 rfl rfl ?_
  refine g_iinc (ls' := [(0, (s : Int)), (0, (((((((((0 + (pm_and (pm_shr (s : Int) 0) 1)) + (pm_and (pm_shr (s : Int) 1) 1)) + (pm_and (pm_shr (s : Int) 2) 1)) + (pm_and (pm_shr (s : Int) 3) 1)) + (pm_and (pm_shr (s : Int) 4) 1)) + (pm_and (pm_shr (s : Int) 5) 1)) + (pm_and (pm_shr (s : Int) 6) 1)) + (pm_and (pm_shr (s : Int) 7) 1)) + (pm_and (pm_shr (s : Int) 8) 1))), (0, 9)]) lk_171_18 rfl rfl rfl ?_
  refine g_goto (t := 4) lk_171_21 rfl ?_
  refine g_iload_n lk_171_4 rfl ?_
  refine g_bipush lk_171_5 ?_
  refine g_icmp (t := 24) lk_171_7 rfl (by first | (unfold pm_inI; omega) | exact pm_and_in _ _ | exact pm_shr_in _ _ | exact pm_or_in _ _ | exact pm_xor_in _ _ | exact pm_shl_in _ _ | exact pm_cmp_in _ _ | exact pm_b8_in _ | (unfold pm_inI; split <;> omega)) (by first | (unfold pm_inI; omega) | exact pm_and_in _ _ | exact pm_shr_in _ _ | exact pm_or_in _ _ | exact pm_xor_in _ _ | exact pm_shl_in _ _ | exact pm_cmp_in _ _ | exact pm_b8_in _ | (unfold pm_inI; split <;> omega)) (fun h => absurd h (show ¬ (12 ≤ 9) by omega)) (fun _ => ?_)
  refine g_iload_n lk_171_10 rfl ?_
  refine g_iload_n lk_171_11 rfl ?_
  refine g_iload_n lk_171_12 rfl ?_
  refine g_ishr lk_171_13 ?_
  refine g_iconst lk_171_14 ?_
  refine g_iand lk_171_15 ?_
  refine g_iadd lk_171_16 ?_
  refine g_istore_n (ls' := [(0, (s : Int)), (0, ((((((((((0 + (pm_and (pm_shr (s : Int) 0) 1)) + (pm_and (pm_shr (s : Int) 1) 1)) + (pm_and (pm_shr (s : Int) 2) 1)) + (pm_and (pm_shr (s : Int) 3) 1)) + (pm_and (pm_shr (s : Int) 4) 1)) + (pm_and (pm_shr (s : Int) 5) 1)) + (pm_and (pm_shr (s : Int) 6) 1)) + (pm_and (pm_shr (s : Int) 7) 1)) + (pm_and (pm_shr (s : Int) 8) 1)) + (pm_and (pm_shr (s : Int) 9) 1))), (0, 9)]) lk_171_17 rfl rfl ?_
  refine g_iinc (ls' := [(0, (s : Int)), (0, ((((((((((0 + (pm_and (pm_shr (s : Int) 0) 1)) + (pm_and (pm_shr (s : Int) 1) 1)) + (pm_and (pm_shr (s : Int) 2) 1)) + (pm_and (pm_shr (s : Int) 3) 1)) + (pm_and (pm_shr (s : Int) 4) 1)) + (pm_and (pm_shr (s : Int) 5) 1)) + (pm_and (pm_shr (s : Int) 6) 1)) + (pm_and (pm_shr (s : Int) 7) 1)) + (pm_and (pm_shr (s : Int) 8) 1)) + (pm_and (pm_shr (s : Int) 9) 1))), (0, 10)]) lk_171_18 rfl rfl rfl ?_
  refine g_goto (t := 4) lk_171_21 rfl ?_
  refine g_iload_n lk_171_4 rfl ?_
  refine g_bipush lk_171_5 ?_
  refine g_icmp (t := 24) lk_171_7 rfl (by first | (unfold pm_inI; omega) | exact pm_and_in _ _ | exact pm_shr_in _ _ | exact pm_or_in _ _ | exact pm_xor_in _ _ | exact pm_shl_in _ _ | exact pm_cmp_in _ _ | exact pm_b8_in _ | (unfold pm_inI; split <;> omega)) (by first | (unfold pm_inI; omega) | exact pm_and_in _ _ | exact pm_shr_in _ _ | exact pm_or_in _ _ | exact pm_xor_in _ _ | exact pm_shl_in _ _ | exact pm_cmp_in _ _ | exact pm_b8_in _ | (unfold pm_inI; split <;> omega)) (fun h => absurd h (show ¬ (12 ≤ 10) by omega)) (fun _ => ?_)
  refine g_iload_n lk_171_10 rfl ?_
  refine g_iload_n lk_171_11 rfl ?_
  refine g_iload_n lk_171_12 rfl ?_
  refine g_ishr lk_171_13 ?_
  refine g_iconst lk_171_14 ?_
  refine g_iand lk_171_15 ?_
  refine g_iadd lk_171_16 ?_
  refine g_istore_n (ls' := [(0, (s : Int)), (0, (((((((((((0 + (pm_and (pm_shr (s : Int) 0) 1)) + (pm_and (pm_shr (s : Int) 1) 1)) + (pm_and (pm_shr (s : Int) 2) 1)) + (pm_and (pm_shr (s : Int) 3) 1)) + (pm_and (pm_shr (s : Int) 4) 1)) + (pm_and (pm_shr (s : Int) 5) 1)) + (pm_and (pm_shr (s : Int) 6) 1)) + (pm_and (pm_shr (s : Int) 7) 1)) + (pm_and (pm_shr (s : Int) 8) 1)) + (pm_and (pm_shr (s : Int) 9) 1)) + (pm_and (pm_shr (s : Int) 10) 1))), (0, 10)]) lk_171_17 rfl rfl ?_
  refine g_iinc (ls' := [(0, (s : Int)), (0, (((((((((((0 + (pm_and (pm_shr (s : Int) 0) 1)) + (pm_and (pm_shr (s : Int) 1) 1)) + (pm_and (pm_shr (s : Int) 2) 1)) + (pm_and (pm_shr (s : Int) 3) 1)) + (pm_and (pm_shr (s : Int) 4) 1)) + (pm_and (pm_shr (s : Int) 5) 1)) + (pm_and (pm_shr (s : Int) 6) 1)) + (pm_and (pm_shr (s : Int) 7) 1)) + (pm_and (pm_shr (s : Int) 8) 1)) + (pm_and (pm_shr (s : Int) 9) 1)) + (pm_and (pm_shr (s : Int) 10) 1))), (0, 11)]) lk_171_18 rfl rfl rfl ?_
  refine g_goto (t := 4) lk_171_21 rfl ?_
  refine g_iload_n lk_171_4 rfl ?_
  refine g_bipush lk_171_5 ?_
  refine g_icmp (t := 24) lk_171_7 rfl (by first | (unfold pm_inI; omega) | exact pm_and_in _ _ | exact pm_shr_in _ _ | exact pm_or_in _ _ | exact pm_xor_in _ _ | exact pm_shl_in _ _ | exact pm_cmp_in _ _ | exact pm_b8_in _ | (unfold pm_inI; split <;> omega)) (by first | (unfold pm_inI; omega) | exact pm_and_in _ _ | exact pm_shr_in _ _ | exact pm_or_in _ _ | exact pm_xor_in _ _ | exact pm_shl_in _ _ | exact pm_cmp_in _ _ | exact pm_b8_in _ | (unfold pm_inI; split <;> omega)) (fun h => absurd h (show ¬ (12 ≤ 11) by omega)) (fun _ => ?_)
  refine g_iload_n lk_171_10 rfl ?_
  refine g_iload_n lk_171_11 rfl ?_
  refine g_iload_n lk_171_12 rfl ?_
  refine g_ishr lk_171_13 ?_
  refine g_iconst lk_171_14 ?_
  refine g_iand lk_171_15 ?_
  refine g_iadd lk_171_16 ?_
  refine g_istore_n (ls' := [(0, (s : Int)), (0, ((((((((((((0 + (pm_and (pm_shr (s : Int) 0) 1)) + (pm_and (pm_shr (s : Int) 1) 1)) + (pm_and (pm_shr (s : Int) 2) 1)) + (pm_and (pm_shr (s : Int) 3) 1)) + (pm_and (pm_shr (s : Int) 4) 1)) + (pm_and (pm_shr (s : Int) 5) 1)) + (pm_and (pm_shr (s : Int) 6) 1)) + (pm_and (pm_shr (s : Int) 7) 1)) + (pm_and (pm_shr (s : Int) 8) 1)) + (pm_and (pm_shr (s : Int) 9) 1)) + (pm_and (pm_shr (s : Int) 10) 1)) + (pm_and (pm_shr (s : Int) 11) 1))), (0, 11)]) lk_171_17 rfl rfl ?_
  refine g_iinc (ls' := [(0, (s : Int)), (0, ((((((((((((0 + (pm_and (pm_shr (s : Int) 0) 1)) + (pm_and (pm_shr (s : Int) 1) 1)) + (pm_and (pm_shr (s : Int) 2) 1)) + (pm_and (pm_shr (s : Int) 3) 1)) + (pm_and (pm_shr (s : Int) 4) 1)) + (pm_and (pm_shr (s : Int) 5) 1)) + (pm_and (pm_shr (s : Int) 6) 1)) + (pm_and (pm_shr (s : Int) 7) 1)) + (pm_and (pm_shr (s : Int) 8) 1)) + (pm_and (pm_shr (s : Int) 9) 1)) + (pm_and (pm_shr (s : Int) 10) 1)) + (pm_and (pm_shr (s : Int) 11) 1))), (0, 12)]) lk_171_18 rfl rfl rfl ?_
  refine g_goto (t := 4) lk_171_21 rfl ?_
  refine g_iload_n lk_171_4 rfl ?_
  refine g_bipush lk_171_5 ?_
  refine g_icmp (t := 24) lk_171_7 rfl (by first | (unfold pm_inI; omega) | exact pm_and_in _ _ | exact pm_shr_in _ _ | exact pm_or_in _ _ | exact pm_xor_in _ _ | exact pm_shl_in _ _ | exact pm_cmp_in _ _ | exact pm_b8_in _ | (unfold pm_inI; split <;> omega)) (by first | (unfold pm_inI; omega) | exact pm_and_in _ _ | exact pm_shr_in _ _ | exact pm_or_in _ _ | exact pm_xor_in _ _ | exact pm_shl_in _ _ | exact pm_cmp_in _ _ | exact pm_b8_in _ | (unfold pm_inI; split <;> omega)) (fun _ => ?_) (fun h => absurd (show 12 ≤ 12 by omega) h)
  refine g_iload_n lk_171_24 rfl ?_
  refine g_ireturn lk_171_25 (fun h => absurd h (by decide)) ?_
  refine ⟨?_, rfl⟩
  rw [b0, b1, b2, b3, b4, b5, b6, b7, b8, b9, b10, b11, pop_bt]
  congr 2
  omega
