/-! ===== the tape: feed, end, fault ===== -/
/-- the class's and the model's tape: n bytes; what they hold (0 .. 255) -/
def TpX (M : pm_M) (n : Nat) (tp : Nat → Int) : Prop := pm_ct M 2 4 = (n : Int) ∧ ∀ i, i < n → pm_ct M 3 i = (tp i).bmod 256
def TpM (M : pm_M) (n : Nat) (tp : Nat → Int) : Prop := pm_ct M 116 23 = (n : Int) ∧ ∀ i, i < n → pm_ct M 132 i = tp i
/-- four bytes more -/
def tp4 (n : Nat) (tp : Nat → Int) (v : Int) : Nat → Int := fun j => if j = n then (v >>> 24) % 256 else if j = n + 1 then (v >>> 16) % 256 else if j = n + 2 then (v >>> 8) % 256 else if j = n + 3 then v % 256 else tp j
theorem pm_b8_b8 (z : Int) : pm_b8 (pm_b8 z) = (z % 256).bmod 256 := by
  rw [pm_b8_eq, pm_b8_eq, Int.bmod_bmod]
  exact (Int.emod_bmod (x := z) (n := 256)).symm
theorem pm_sh0 {v : Int} (hv : pm_inI v) : pm_shr v 24 = v >>> 24 ∧ pm_shr v 16 = v >>> 16 ∧ pm_shr v 8 = v >>> 8 ∧ pm_shr v 0 = v :=
  ⟨pm_shr_n (k := 24) hv (by decide), pm_shr_n (k := 16) hv (by decide), pm_shr_n (k := 8) hv (by decide), (pm_shr_n (k := 0) hv (by decide)).trans (Int.shiftRight_zero v)⟩
set_option maxHeartbeats 4000000 in
theorem c_Reader_append {d mc ms : Nat} {M : pm_M} (lay : Lay M) {n : Nat} {tp : Nat → Int} (hM : TpX M n tp) (hn : n + 4 ≤ 500) {v : Int} (hv : pm_inI v) :
    pm_E d 56 [(2, ((2 : Nat) : Int)), (0, v)] M mc ms (fun ρ M' => ρ = none ∧ ∃ f, M' = Mu [(3, f), (2, pm_upd (pm_ct M 2) 4 ((n + 4 : Nat) : Int))] M ∧ Lay M' ∧ TpX M' (n + 4) (tp4 n tp v)) := by
  show Wp d 56 0 [(2, ((2 : Nat) : Int)), (0, v), (9, 0)] [] M mc ms _
  refine g_bipush lk_56_0 ?_
  refine g_istore_n (ls' := [(2, ((2 : Nat) : Int)), (0, v), (0, 24)]) lk_56_2 rfl rfl ?_
  refine g_iload_n lk_56_3 rfl ?_
  refine g_if (t := 46) lk_56_4 rfl (by first | (unfold pm_inI; omega) | exact pm_and_in _ _ | exact pm_shr_in _ _ | exact pm_or_in _ _ | exact pm_xor_in _ _ | exact pm_shl_in _ _ | exact pm_cmp_in _ _ | exact pm_b8_in _ | (unfold pm_inI; split <;> omega)) (fun h => absurd h (show ¬ ((24 : Int) < (0 : Int)) by omega)) (fun _ => ?_)
  refine g_aload_n lk_56_7 rfl ?_
  refine m_getfield (u := []) (M := M) lk_56_8 rfl (lay.on (by decide) rfl) (v := (n : Int)) hM.1 ?_
  refine g_sipush lk_56_11 ?_
  refine g_icmp (t := 46) lk_56_14 rfl (by first | (unfold pm_inI; omega) | exact pm_and_in _ _ | exact pm_shr_in _ _ | exact pm_or_in _ _ | exact pm_xor_in _ _ | exact pm_shl_in _ _ | exact pm_cmp_in _ _ | exact pm_b8_in _ | (unfold pm_inI; split <;> omega)) (by first | (unfold pm_inI; omega) | exact pm_and_in _ _ | exact pm_shr_in _ _ | exact pm_or_in _ _ | exact pm_xor_in _ _ | exact pm_shl_in _ _ | exact pm_cmp_in _ _ | exact pm_b8_in _ | (unfold pm_inI; split <;> omega)) (fun h1 => ?_) (fun h1 => ?_)
  · replace h1 : 500 ≤ (n : Int) := h1
    refine g_return lk_56_46 ?_
    exfalso; omega
  · replace h1 : ¬ (500 ≤ (n : Int)) := h1
    refine g_aload_n lk_56_17 rfl ?_
    refine g_getfield lk_56_18 rfl (lay.on (by decide) rfl) (v := ((3 : Nat) : Int)) (lay.rf rfl) ?_
    refine g_aload_n lk_56_21 rfl ?_
    refine m_getfield (u := []) (M := M) lk_56_22 rfl (lay.on (by decide) rfl) (v := (n : Int)) hM.1 ?_
    refine g_iload_n lk_56_25 rfl ?_
    refine g_iload_n lk_56_26 rfl ?_
    refine g_ishr lk_56_27 ?_
    refine g_i2b lk_56_28 ?_
    have lay2 : Lay (Mu [(3, pm_upd (pm_ct M 3) n (pm_b8 (pm_b8 (pm_shr v 24))))] M) := lay.muA (l := []) (a := 3) (f := pm_upd (pm_ct M 3) n (pm_b8 (pm_b8 (pm_shr v 24)))) rfl rfl
    refine m_bastore (u := []) (u' := [(3, pm_upd (pm_ct M 3) n (pm_b8 (pm_b8 (pm_shr v 24))))]) (M := M) lk_56_29 (lay.ay (by decide) rfl) (by omega) (j := n) (by omega) rfl ?_
    refine g_aload_n lk_56_30 rfl ?_
    refine g_dup lk_56_31 rfl ?_
    refine m_getfield (u := [(3, pm_upd (pm_ct M 3) n (pm_b8 (pm_b8 (pm_shr v 24))))]) (M := M) lk_56_32 rfl (lay2.on (by decide) rfl) (v := (n : Int)) hM.1 ?_
    refine g_iconst lk_56_35 ?_
    refine g_iadd lk_56_36 ?_
    have lay3 : Lay (Mu [(3, pm_upd (pm_ct M 3) n (pm_b8 (pm_b8 (pm_shr v 24)))), (2, pm_upd (pm_ct M 2) 4 ((n : Int) + 1))] M) := lay2.muF (l := [(3, pm_upd (pm_ct M 3) n (pm_b8 (pm_b8 (pm_shr v 24))))]) (a := 2) (k := 4) (z := ((n : Int) + 1)) rfl rfl
    refine m_putfield (u := [(3, pm_upd (pm_ct M 3) n (pm_b8 (pm_b8 (pm_shr v 24))))]) (u' := [(3, pm_upd (pm_ct M 3) n (pm_b8 (pm_b8 (pm_shr v 24)))), (2, pm_upd (pm_ct M 2) 4 ((n : Int) + 1))]) (M := M) lk_56_37 rfl (lay2.on (by decide) rfl) (fun h => absurd h (by decide)) rfl ?_
    refine g_iinc (ls' := [(2, ((2 : Nat) : Int)), (0, v), (0, 16)]) lk_56_40 rfl rfl rfl ?_
    refine g_goto (t := 3) lk_56_43 rfl ?_
    refine g_iload_n lk_56_3 rfl ?_
    refine g_if (t := 46) lk_56_4 rfl (by first | (unfold pm_inI; omega) | exact pm_and_in _ _ | exact pm_shr_in _ _ | exact pm_or_in _ _ | exact pm_xor_in _ _ | exact pm_shl_in _ _ | exact pm_cmp_in _ _ | exact pm_b8_in _ | (unfold pm_inI; split <;> omega)) (fun h => absurd h (show ¬ ((16 : Int) < (0 : Int)) by omega)) (fun _ => ?_)
    refine g_aload_n lk_56_7 rfl ?_
    refine m_getfield (u := [(3, pm_upd (pm_ct M 3) n (pm_b8 (pm_b8 (pm_shr v 24)))), (2, pm_upd (pm_ct M 2) 4 ((n : Int) + 1))]) (M := M) lk_56_8 rfl (lay3.on (by decide) rfl) (v := ((n : Int) + 1)) rfl ?_
    refine g_sipush lk_56_11 ?_
    refine g_icmp (t := 46) lk_56_14 rfl (by first | (unfold pm_inI; omega) | exact pm_and_in _ _ | exact pm_shr_in _ _ | exact pm_or_in _ _ | exact pm_xor_in _ _ | exact pm_shl_in _ _ | exact pm_cmp_in _ _ | exact pm_b8_in _ | (unfold pm_inI; split <;> omega)) (by first | (unfold pm_inI; omega) | exact pm_and_in _ _ | exact pm_shr_in _ _ | exact pm_or_in _ _ | exact pm_xor_in _ _ | exact pm_shl_in _ _ | exact pm_cmp_in _ _ | exact pm_b8_in _ | (unfold pm_inI; split <;> omega)) (fun h4 => ?_) (fun h4 => ?_)
    · replace h4 : 500 ≤ ((n : Int) + 1) := h4
      refine g_return lk_56_46 ?_
      exfalso; omega
    · replace h4 : ¬ (500 ≤ ((n : Int) + 1)) := h4
      refine g_aload_n lk_56_17 rfl ?_
      refine g_getfield lk_56_18 rfl (lay3.on (by decide) rfl) (v := ((3 : Nat) : Int)) (lay3.rf rfl) ?_
      refine g_aload_n lk_56_21 rfl ?_
      refine m_getfield (u := [(3, pm_upd (pm_ct M 3) n (pm_b8 (pm_b8 (pm_shr v 24)))), (2, pm_upd (pm_ct M 2) 4 ((n : Int) + 1))]) (M := M) lk_56_22 rfl (lay3.on (by decide) rfl) (v := ((n : Int) + 1)) rfl ?_
      refine g_iload_n lk_56_25 rfl ?_
      refine g_iload_n lk_56_26 rfl ?_
      refine g_ishr lk_56_27 ?_
      refine g_i2b lk_56_28 ?_
      have lay5 : Lay (Mu [(3, pm_upd (pm_upd (pm_ct M 3) n (pm_b8 (pm_b8 (pm_shr v 24)))) (n + 1) (pm_b8 (pm_b8 (pm_shr v 16)))), (2, pm_upd (pm_ct M 2) 4 ((n : Int) + 1))] M) := lay3.muA (l := [(3, pm_upd (pm_ct M 3) n (pm_b8 (pm_b8 (pm_shr v 24)))), (2, pm_upd (pm_ct M 2) 4 ((n : Int) + 1))]) (a := 3) (f := pm_upd (pm_upd (pm_ct M 3) n (pm_b8 (pm_b8 (pm_shr v 24)))) (n + 1) (pm_b8 (pm_b8 (pm_shr v 16)))) rfl rfl
      refine m_bastore (u := [(3, pm_upd (pm_ct M 3) n (pm_b8 (pm_b8 (pm_shr v 24)))), (2, pm_upd (pm_ct M 2) 4 ((n : Int) + 1))]) (u' := [(3, pm_upd (pm_upd (pm_ct M 3) n (pm_b8 (pm_b8 (pm_shr v 24)))) (n + 1) (pm_b8 (pm_b8 (pm_shr v 16)))), (2, pm_upd (pm_ct M 2) 4 ((n : Int) + 1))]) (M := M) lk_56_29 (lay3.ay (by decide) rfl) (by omega) (j := (n + 1)) (by omega) rfl ?_
      refine g_aload_n lk_56_30 rfl ?_
      refine g_dup lk_56_31 rfl ?_
      refine m_getfield (u := [(3, pm_upd (pm_upd (pm_ct M 3) n (pm_b8 (pm_b8 (pm_shr v 24)))) (n + 1) (pm_b8 (pm_b8 (pm_shr v 16)))), (2, pm_upd (pm_ct M 2) 4 ((n : Int) + 1))]) (M := M) lk_56_32 rfl (lay5.on (by decide) rfl) (v := ((n : Int) + 1)) rfl ?_
      refine g_iconst lk_56_35 ?_
      refine g_iadd lk_56_36 ?_
      have lay6 : Lay (Mu [(3, pm_upd (pm_upd (pm_ct M 3) n (pm_b8 (pm_b8 (pm_shr v 24)))) (n + 1) (pm_b8 (pm_b8 (pm_shr v 16)))), (2, pm_upd (pm_ct M 2) 4 (((n : Int) + 1) + 1))] M) := lay5.muF (l := [(3, pm_upd (pm_upd (pm_ct M 3) n (pm_b8 (pm_b8 (pm_shr v 24)))) (n + 1) (pm_b8 (pm_b8 (pm_shr v 16)))), (2, pm_upd (pm_ct M 2) 4 ((n : Int) + 1))]) (a := 2) (k := 4) (z := (((n : Int) + 1) + 1)) rfl (congrArg (fun F => [(3, pm_upd (pm_upd (pm_ct M 3) n (pm_b8 (pm_b8 (pm_shr v 24)))) (n + 1) (pm_b8 (pm_b8 (pm_shr v 16)))), (2, F)]) (pm_upd_upd _ _ _ _))
      refine m_putfield (u := [(3, pm_upd (pm_upd (pm_ct M 3) n (pm_b8 (pm_b8 (pm_shr v 24)))) (n + 1) (pm_b8 (pm_b8 (pm_shr v 16)))), (2, pm_upd (pm_ct M 2) 4 ((n : Int) + 1))]) (u' := [(3, pm_upd (pm_upd (pm_ct M 3) n (pm_b8 (pm_b8 (pm_shr v 24)))) (n + 1) (pm_b8 (pm_b8 (pm_shr v 16)))), (2, pm_upd (pm_ct M 2) 4 (((n : Int) + 1) + 1))]) (M := M) lk_56_37 rfl (lay5.on (by decide) rfl) (fun h => absurd h (by decide)) (congrArg (fun F => [(3, pm_upd (pm_upd (pm_ct M 3) n (pm_b8 (pm_b8 (pm_shr v 24)))) (n + 1) (pm_b8 (pm_b8 (pm_shr v 16)))), (2, F)]) (pm_upd_upd _ _ _ _)) ?_
      refine g_iinc (ls' := [(2, ((2 : Nat) : Int)), (0, v), (0, 8)]) lk_56_40 rfl rfl rfl ?_
      refine g_goto (t := 3) lk_56_43 rfl ?_
      refine g_iload_n lk_56_3 rfl ?_
      refine g_if (t := 46) lk_56_4 rfl (by first | (unfold pm_inI; omega) | exact pm_and_in _ _ | exact pm_shr_in _ _ | exact pm_or_in _ _ | exact pm_xor_in _ _ | exact pm_shl_in _ _ | exact pm_cmp_in _ _ | exact pm_b8_in _ | (unfold pm_inI; split <;> omega)) (fun h => absurd h (show ¬ ((8 : Int) < (0 : Int)) by omega)) (fun _ => ?_)
      refine g_aload_n lk_56_7 rfl ?_
      refine m_getfield (u := [(3, pm_upd (pm_upd (pm_ct M 3) n (pm_b8 (pm_b8 (pm_shr v 24)))) (n + 1) (pm_b8 (pm_b8 (pm_shr v 16)))), (2, pm_upd (pm_ct M 2) 4 (((n : Int) + 1) + 1))]) (M := M) lk_56_8 rfl (lay6.on (by decide) rfl) (v := (((n : Int) + 1) + 1)) rfl ?_
      refine g_sipush lk_56_11 ?_
      refine g_icmp (t := 46) lk_56_14 rfl (by first | (unfold pm_inI; omega) | exact pm_and_in _ _ | exact pm_shr_in _ _ | exact pm_or_in _ _ | exact pm_xor_in _ _ | exact pm_shl_in _ _ | exact pm_cmp_in _ _ | exact pm_b8_in _ | (unfold pm_inI; split <;> omega)) (by first | (unfold pm_inI; omega) | exact pm_and_in _ _ | exact pm_shr_in _ _ | exact pm_or_in _ _ | exact pm_xor_in _ _ | exact pm_shl_in _ _ | exact pm_cmp_in _ _ | exact pm_b8_in _ | (unfold pm_inI; split <;> omega)) (fun h7 => ?_) (fun h7 => ?_)
      · replace h7 : 500 ≤ (((n : Int) + 1) + 1) := h7
        refine g_return lk_56_46 ?_
        exfalso; omega
      · replace h7 : ¬ (500 ≤ (((n : Int) + 1) + 1)) := h7
        refine g_aload_n lk_56_17 rfl ?_
        refine g_getfield lk_56_18 rfl (lay6.on (by decide) rfl) (v := ((3 : Nat) : Int)) (lay6.rf rfl) ?_
        refine g_aload_n lk_56_21 rfl ?_
        refine m_getfield (u := [(3, pm_upd (pm_upd (pm_ct M 3) n (pm_b8 (pm_b8 (pm_shr v 24)))) (n + 1) (pm_b8 (pm_b8 (pm_shr v 16)))), (2, pm_upd (pm_ct M 2) 4 (((n : Int) + 1) + 1))]) (M := M) lk_56_22 rfl (lay6.on (by decide) rfl) (v := (((n : Int) + 1) + 1)) rfl ?_
        refine g_iload_n lk_56_25 rfl ?_
        refine g_iload_n lk_56_26 rfl ?_
        refine g_ishr lk_56_27 ?_
        refine g_i2b lk_56_28 ?_
        have lay8 : Lay (Mu [(3, pm_upd (pm_upd (pm_upd (pm_ct M 3) n (pm_b8 (pm_b8 (pm_shr v 24)))) (n + 1) (pm_b8 (pm_b8 (pm_shr v 16)))) ((n + 1) + 1) (pm_b8 (pm_b8 (pm_shr v 8)))), (2, pm_upd (pm_ct M 2) 4 (((n : Int) + 1) + 1))] M) := lay6.muA (l := [(3, pm_upd (pm_upd (pm_ct M 3) n (pm_b8 (pm_b8 (pm_shr v 24)))) (n + 1) (pm_b8 (pm_b8 (pm_shr v 16)))), (2, pm_upd (pm_ct M 2) 4 (((n : Int) + 1) + 1))]) (a := 3) (f := pm_upd (pm_upd (pm_upd (pm_ct M 3) n (pm_b8 (pm_b8 (pm_shr v 24)))) (n + 1) (pm_b8 (pm_b8 (pm_shr v 16)))) ((n + 1) + 1) (pm_b8 (pm_b8 (pm_shr v 8)))) rfl rfl
        refine m_bastore (u := [(3, pm_upd (pm_upd (pm_ct M 3) n (pm_b8 (pm_b8 (pm_shr v 24)))) (n + 1) (pm_b8 (pm_b8 (pm_shr v 16)))), (2, pm_upd (pm_ct M 2) 4 (((n : Int) + 1) + 1))]) (u' := [(3, pm_upd (pm_upd (pm_upd (pm_ct M 3) n (pm_b8 (pm_b8 (pm_shr v 24)))) (n + 1) (pm_b8 (pm_b8 (pm_shr v 16)))) ((n + 1) + 1) (pm_b8 (pm_b8 (pm_shr v 8)))), (2, pm_upd (pm_ct M 2) 4 (((n : Int) + 1) + 1))]) (M := M) lk_56_29 (lay6.ay (by decide) rfl) (by omega) (j := ((n + 1) + 1)) (by omega) rfl ?_
        refine g_aload_n lk_56_30 rfl ?_
        refine g_dup lk_56_31 rfl ?_
        refine m_getfield (u := [(3, pm_upd (pm_upd (pm_upd (pm_ct M 3) n (pm_b8 (pm_b8 (pm_shr v 24)))) (n + 1) (pm_b8 (pm_b8 (pm_shr v 16)))) ((n + 1) + 1) (pm_b8 (pm_b8 (pm_shr v 8)))), (2, pm_upd (pm_ct M 2) 4 (((n : Int) + 1) + 1))]) (M := M) lk_56_32 rfl (lay8.on (by decide) rfl) (v := (((n : Int) + 1) + 1)) rfl ?_
        refine g_iconst lk_56_35 ?_
        refine g_iadd lk_56_36 ?_
        have lay9 : Lay (Mu [(3, pm_upd (pm_upd (pm_upd (pm_ct M 3) n (pm_b8 (pm_b8 (pm_shr v 24)))) (n + 1) (pm_b8 (pm_b8 (pm_shr v 16)))) ((n + 1) + 1) (pm_b8 (pm_b8 (pm_shr v 8)))), (2, pm_upd (pm_ct M 2) 4 ((((n : Int) + 1) + 1) + 1))] M) := lay8.muF (l := [(3, pm_upd (pm_upd (pm_upd (pm_ct M 3) n (pm_b8 (pm_b8 (pm_shr v 24)))) (n + 1) (pm_b8 (pm_b8 (pm_shr v 16)))) ((n + 1) + 1) (pm_b8 (pm_b8 (pm_shr v 8)))), (2, pm_upd (pm_ct M 2) 4 (((n : Int) + 1) + 1))]) (a := 2) (k := 4) (z := ((((n : Int) + 1) + 1) + 1)) rfl (congrArg (fun F => [(3, pm_upd (pm_upd (pm_upd (pm_ct M 3) n (pm_b8 (pm_b8 (pm_shr v 24)))) (n + 1) (pm_b8 (pm_b8 (pm_shr v 16)))) ((n + 1) + 1) (pm_b8 (pm_b8 (pm_shr v 8)))), (2, F)]) (pm_upd_upd _ _ _ _))
        refine m_putfield (u := [(3, pm_upd (pm_upd (pm_upd (pm_ct M 3) n (pm_b8 (pm_b8 (pm_shr v 24)))) (n + 1) (pm_b8 (pm_b8 (pm_shr v 16)))) ((n + 1) + 1) (pm_b8 (pm_b8 (pm_shr v 8)))), (2, pm_upd (pm_ct M 2) 4 (((n : Int) + 1) + 1))]) (u' := [(3, pm_upd (pm_upd (pm_upd (pm_ct M 3) n (pm_b8 (pm_b8 (pm_shr v 24)))) (n + 1) (pm_b8 (pm_b8 (pm_shr v 16)))) ((n + 1) + 1) (pm_b8 (pm_b8 (pm_shr v 8)))), (2, pm_upd (pm_ct M 2) 4 ((((n : Int) + 1) + 1) + 1))]) (M := M) lk_56_37 rfl (lay8.on (by decide) rfl) (fun h => absurd h (by decide)) (congrArg (fun F => [(3, pm_upd (pm_upd (pm_upd (pm_ct M 3) n (pm_b8 (pm_b8 (pm_shr v 24)))) (n + 1) (pm_b8 (pm_b8 (pm_shr v 16)))) ((n + 1) + 1) (pm_b8 (pm_b8 (pm_shr v 8)))), (2, F)]) (pm_upd_upd _ _ _ _)) ?_
        refine g_iinc (ls' := [(2, ((2 : Nat) : Int)), (0, v), (0, 0)]) lk_56_40 rfl rfl rfl ?_
        refine g_goto (t := 3) lk_56_43 rfl ?_
        refine g_iload_n lk_56_3 rfl ?_
        refine g_if (t := 46) lk_56_4 rfl (by first | (unfold pm_inI; omega) | exact pm_and_in _ _ | exact pm_shr_in _ _ | exact pm_or_in _ _ | exact pm_xor_in _ _ | exact pm_shl_in _ _ | exact pm_cmp_in _ _ | exact pm_b8_in _ | (unfold pm_inI; split <;> omega)) (fun h => absurd h (show ¬ ((0 : Int) < (0 : Int)) by omega)) (fun _ => ?_)
        refine g_aload_n lk_56_7 rfl ?_
        refine m_getfield (u := [(3, pm_upd (pm_upd (pm_upd (pm_ct M 3) n (pm_b8 (pm_b8 (pm_shr v 24)))) (n + 1) (pm_b8 (pm_b8 (pm_shr v 16)))) ((n + 1) + 1) (pm_b8 (pm_b8 (pm_shr v 8)))), (2, pm_upd (pm_ct M 2) 4 ((((n : Int) + 1) + 1) + 1))]) (M := M) lk_56_8 rfl (lay9.on (by decide) rfl) (v := ((((n : Int) + 1) + 1) + 1)) rfl ?_
        refine g_sipush lk_56_11 ?_
        refine g_icmp (t := 46) lk_56_14 rfl (by first | (unfold pm_inI; omega) | exact pm_and_in _ _ | exact pm_shr_in _ _ | exact pm_or_in _ _ | exact pm_xor_in _ _ | exact pm_shl_in _ _ | exact pm_cmp_in _ _ | exact pm_b8_in _ | (unfold pm_inI; split <;> omega)) (by first | (unfold pm_inI; omega) | exact pm_and_in _ _ | exact pm_shr_in _ _ | exact pm_or_in _ _ | exact pm_xor_in _ _ | exact pm_shl_in _ _ | exact pm_cmp_in _ _ | exact pm_b8_in _ | (unfold pm_inI; split <;> omega)) (fun h10 => ?_) (fun h10 => ?_)
        · replace h10 : 500 ≤ ((((n : Int) + 1) + 1) + 1) := h10
          refine g_return lk_56_46 ?_
          exfalso; omega
        · replace h10 : ¬ (500 ≤ ((((n : Int) + 1) + 1) + 1)) := h10
          refine g_aload_n lk_56_17 rfl ?_
          refine g_getfield lk_56_18 rfl (lay9.on (by decide) rfl) (v := ((3 : Nat) : Int)) (lay9.rf rfl) ?_
          refine g_aload_n lk_56_21 rfl ?_
          refine m_getfield (u := [(3, pm_upd (pm_upd (pm_upd (pm_ct M 3) n (pm_b8 (pm_b8 (pm_shr v 24)))) (n + 1) (pm_b8 (pm_b8 (pm_shr v 16)))) ((n + 1) + 1) (pm_b8 (pm_b8 (pm_shr v 8)))), (2, pm_upd (pm_ct M 2) 4 ((((n : Int) + 1) + 1) + 1))]) (M := M) lk_56_22 rfl (lay9.on (by decide) rfl) (v := ((((n : Int) + 1) + 1) + 1)) rfl ?_
          refine g_iload_n lk_56_25 rfl ?_
          refine g_iload_n lk_56_26 rfl ?_
          refine g_ishr lk_56_27 ?_
          refine g_i2b lk_56_28 ?_
          have lay11 : Lay (Mu [(3, pm_upd (pm_upd (pm_upd (pm_upd (pm_ct M 3) n (pm_b8 (pm_b8 (pm_shr v 24)))) (n + 1) (pm_b8 (pm_b8 (pm_shr v 16)))) ((n + 1) + 1) (pm_b8 (pm_b8 (pm_shr v 8)))) (((n + 1) + 1) + 1) (pm_b8 (pm_b8 (pm_shr v 0)))), (2, pm_upd (pm_ct M 2) 4 ((((n : Int) + 1) + 1) + 1))] M) := lay9.muA (l := [(3, pm_upd (pm_upd (pm_upd (pm_ct M 3) n (pm_b8 (pm_b8 (pm_shr v 24)))) (n + 1) (pm_b8 (pm_b8 (pm_shr v 16)))) ((n + 1) + 1) (pm_b8 (pm_b8 (pm_shr v 8)))), (2, pm_upd (pm_ct M 2) 4 ((((n : Int) + 1) + 1) + 1))]) (a := 3) (f := pm_upd (pm_upd (pm_upd (pm_upd (pm_ct M 3) n (pm_b8 (pm_b8 (pm_shr v 24)))) (n + 1) (pm_b8 (pm_b8 (pm_shr v 16)))) ((n + 1) + 1) (pm_b8 (pm_b8 (pm_shr v 8)))) (((n + 1) + 1) + 1) (pm_b8 (pm_b8 (pm_shr v 0)))) rfl rfl
          refine m_bastore (u := [(3, pm_upd (pm_upd (pm_upd (pm_ct M 3) n (pm_b8 (pm_b8 (pm_shr v 24)))) (n + 1) (pm_b8 (pm_b8 (pm_shr v 16)))) ((n + 1) + 1) (pm_b8 (pm_b8 (pm_shr v 8)))), (2, pm_upd (pm_ct M 2) 4 ((((n : Int) + 1) + 1) + 1))]) (u' := [(3, pm_upd (pm_upd (pm_upd (pm_upd (pm_ct M 3) n (pm_b8 (pm_b8 (pm_shr v 24)))) (n + 1) (pm_b8 (pm_b8 (pm_shr v 16)))) ((n + 1) + 1) (pm_b8 (pm_b8 (pm_shr v 8)))) (((n + 1) + 1) + 1) (pm_b8 (pm_b8 (pm_shr v 0)))), (2, pm_upd (pm_ct M 2) 4 ((((n : Int) + 1) + 1) + 1))]) (M := M) lk_56_29 (lay9.ay (by decide) rfl) (by omega) (j := (((n + 1) + 1) + 1)) (by omega) rfl ?_
          refine g_aload_n lk_56_30 rfl ?_
          refine g_dup lk_56_31 rfl ?_
          refine m_getfield (u := [(3, pm_upd (pm_upd (pm_upd (pm_upd (pm_ct M 3) n (pm_b8 (pm_b8 (pm_shr v 24)))) (n + 1) (pm_b8 (pm_b8 (pm_shr v 16)))) ((n + 1) + 1) (pm_b8 (pm_b8 (pm_shr v 8)))) (((n + 1) + 1) + 1) (pm_b8 (pm_b8 (pm_shr v 0)))), (2, pm_upd (pm_ct M 2) 4 ((((n : Int) + 1) + 1) + 1))]) (M := M) lk_56_32 rfl (lay11.on (by decide) rfl) (v := ((((n : Int) + 1) + 1) + 1)) rfl ?_
          refine g_iconst lk_56_35 ?_
          refine g_iadd lk_56_36 ?_
          have lay12 : Lay (Mu [(3, pm_upd (pm_upd (pm_upd (pm_upd (pm_ct M 3) n (pm_b8 (pm_b8 (pm_shr v 24)))) (n + 1) (pm_b8 (pm_b8 (pm_shr v 16)))) ((n + 1) + 1) (pm_b8 (pm_b8 (pm_shr v 8)))) (((n + 1) + 1) + 1) (pm_b8 (pm_b8 (pm_shr v 0)))), (2, pm_upd (pm_ct M 2) 4 (((((n : Int) + 1) + 1) + 1) + 1))] M) := lay11.muF (l := [(3, pm_upd (pm_upd (pm_upd (pm_upd (pm_ct M 3) n (pm_b8 (pm_b8 (pm_shr v 24)))) (n + 1) (pm_b8 (pm_b8 (pm_shr v 16)))) ((n + 1) + 1) (pm_b8 (pm_b8 (pm_shr v 8)))) (((n + 1) + 1) + 1) (pm_b8 (pm_b8 (pm_shr v 0)))), (2, pm_upd (pm_ct M 2) 4 ((((n : Int) + 1) + 1) + 1))]) (a := 2) (k := 4) (z := (((((n : Int) + 1) + 1) + 1) + 1)) rfl (congrArg (fun F => [(3, pm_upd (pm_upd (pm_upd (pm_upd (pm_ct M 3) n (pm_b8 (pm_b8 (pm_shr v 24)))) (n + 1) (pm_b8 (pm_b8 (pm_shr v 16)))) ((n + 1) + 1) (pm_b8 (pm_b8 (pm_shr v 8)))) (((n + 1) + 1) + 1) (pm_b8 (pm_b8 (pm_shr v 0)))), (2, F)]) (pm_upd_upd _ _ _ _))
          refine m_putfield (u := [(3, pm_upd (pm_upd (pm_upd (pm_upd (pm_ct M 3) n (pm_b8 (pm_b8 (pm_shr v 24)))) (n + 1) (pm_b8 (pm_b8 (pm_shr v 16)))) ((n + 1) + 1) (pm_b8 (pm_b8 (pm_shr v 8)))) (((n + 1) + 1) + 1) (pm_b8 (pm_b8 (pm_shr v 0)))), (2, pm_upd (pm_ct M 2) 4 ((((n : Int) + 1) + 1) + 1))]) (u' := [(3, pm_upd (pm_upd (pm_upd (pm_upd (pm_ct M 3) n (pm_b8 (pm_b8 (pm_shr v 24)))) (n + 1) (pm_b8 (pm_b8 (pm_shr v 16)))) ((n + 1) + 1) (pm_b8 (pm_b8 (pm_shr v 8)))) (((n + 1) + 1) + 1) (pm_b8 (pm_b8 (pm_shr v 0)))), (2, pm_upd (pm_ct M 2) 4 (((((n : Int) + 1) + 1) + 1) + 1))]) (M := M) lk_56_37 rfl (lay11.on (by decide) rfl) (fun h => absurd h (by decide)) (congrArg (fun F => [(3, pm_upd (pm_upd (pm_upd (pm_upd (pm_ct M 3) n (pm_b8 (pm_b8 (pm_shr v 24)))) (n + 1) (pm_b8 (pm_b8 (pm_shr v 16)))) ((n + 1) + 1) (pm_b8 (pm_b8 (pm_shr v 8)))) (((n + 1) + 1) + 1) (pm_b8 (pm_b8 (pm_shr v 0)))), (2, F)]) (pm_upd_upd _ _ _ _)) ?_
          refine g_iinc (ls' := [(2, ((2 : Nat) : Int)), (0, v), (0, (-8))]) lk_56_40 rfl rfl rfl ?_
          refine g_goto (t := 3) lk_56_43 rfl ?_
          refine g_iload_n lk_56_3 rfl ?_
          refine g_if (t := 46) lk_56_4 rfl (by first | (unfold pm_inI; omega) | exact pm_and_in _ _ | exact pm_shr_in _ _ | exact pm_or_in _ _ | exact pm_xor_in _ _ | exact pm_shl_in _ _ | exact pm_cmp_in _ _ | exact pm_b8_in _ | (unfold pm_inI; split <;> omega)) (fun _ => ?_) (fun h => absurd (show (-8 : Int) < (0 : Int) by omega) h)
          refine g_return lk_56_46 ?_
          refine ⟨rfl, _, rfl, lay12, ?_, ?_⟩
          · rw [Mu_ct]; rfl
          · intro i hi
            rw [Mu_ct]
            obtain ⟨s1, s2, s3, s4⟩ := pm_sh0 hv
            show pm_upd (pm_upd (pm_upd (pm_upd (pm_ct M 3) n _) (n + 1) _) (n + 1 + 1) _) (n + 1 + 1 + 1) _ i = _
            unfold tp4 pm_upd
            rw [s1, s2, s3, s4]
            by_cases c3 : i = n + 3
            · subst c3; simp [pm_b8_b8]
            by_cases c2 : i = n + 2
            · subst c2; simp [pm_b8_b8]
            by_cases c1 : i = n + 1
            · subst c1; simp [pm_b8_b8]
            by_cases c0 : i = n
            · subst c0; simp [pm_b8_b8, show ¬ i = i + 1 + 1 + 1 by omega, show ¬ i = i + 1 + 1 by omega]
            · simp only [if_neg c0, if_neg c1, if_neg (show ¬ i = n + 1 + 1 by omega), if_neg (show ¬ i = n + 1 + 1 + 1 by omega), if_neg c2, if_neg c3]
              exact hM.2 i (by omega)
set_option maxHeartbeats 4000000 in
theorem c_Mo_four {d mc ms : Nat} {M : pm_M} (lay : Lay M) {n : Nat} {tp : Nat → Int} (hM : TpM M n tp) (hn : n + 4 ≤ 500) {v : Int} (hv : pm_inI v) :
    pm_E d 177 [(2, ((116 : Nat) : Int)), (0, v)] M mc ms (fun ρ M' => ρ = none ∧ ∃ f, M' = Mu [(132, f), (116, pm_upd (pm_ct M 116) 23 ((n + 4 : Nat) : Int))] M ∧ Lay M' ∧ TpM M' (n + 4) (tp4 n tp v)) := by
  show Wp d 177 0 [(2, ((116 : Nat) : Int)), (0, v), (9, 0)] [] M mc ms _
  refine g_bipush lk_177_0 ?_
  refine g_istore_n (ls' := [(2, ((116 : Nat) : Int)), (0, v), (0, 24)]) lk_177_2 rfl rfl ?_
  refine g_iload_n lk_177_3 rfl ?_
  refine g_if (t := 39) lk_177_4 rfl (by first | (unfold pm_inI; omega) | exact pm_and_in _ _ | exact pm_shr_in _ _ | exact pm_or_in _ _ | exact pm_xor_in _ _ | exact pm_shl_in _ _ | exact pm_cmp_in _ _ | exact pm_b8_in _ | (unfold pm_inI; split <;> omega)) (fun h => absurd h (show ¬ ((24 : Int) < (0 : Int)) by omega)) (fun _ => ?_)
  refine g_aload_n lk_177_7 rfl ?_
  refine g_getfield lk_177_8 rfl (lay.on (by decide) rfl) (v := ((132 : Nat) : Int)) (lay.rf rfl) ?_
  refine g_aload_n lk_177_11 rfl ?_
  refine m_getfield (u := []) (M := M) lk_177_12 rfl (lay.on (by decide) rfl) (v := (n : Int)) hM.1 ?_
  refine g_iload_n lk_177_15 rfl ?_
  refine g_iload_n lk_177_16 rfl ?_
  refine g_ishr lk_177_17 ?_
  refine g_sipush lk_177_18 ?_
  refine g_iand lk_177_21 ?_
  have lay1 : Lay (Mu [(132, pm_upd (pm_ct M 132) n (pm_and (pm_shr v 24) 255))] M) := lay.muA (l := []) (a := 132) (f := pm_upd (pm_ct M 132) n (pm_and (pm_shr v 24) 255)) rfl rfl
  refine m_iastore (u := []) (u' := [(132, pm_upd (pm_ct M 132) n (pm_and (pm_shr v 24) 255))]) (M := M) lk_177_22 (lay.ay (by decide) rfl) (by omega) (j := n) (by omega) rfl ?_
  refine g_aload_n lk_177_23 rfl ?_
  refine g_dup lk_177_24 rfl ?_
  refine m_getfield (u := [(132, pm_upd (pm_ct M 132) n (pm_and (pm_shr v 24) 255))]) (M := M) lk_177_25 rfl (lay1.on (by decide) rfl) (v := (n : Int)) hM.1 ?_
  refine g_iconst lk_177_28 ?_
  refine g_iadd lk_177_29 ?_
  have lay2 : Lay (Mu [(132, pm_upd (pm_ct M 132) n (pm_and (pm_shr v 24) 255)), (116, pm_upd (pm_ct M 116) 23 ((n : Int) + 1))] M) := lay1.muF (l := [(132, pm_upd (pm_ct M 132) n (pm_and (pm_shr v 24) 255))]) (a := 116) (k := 23) (z := ((n : Int) + 1)) rfl rfl
  refine m_putfield (u := [(132, pm_upd (pm_ct M 132) n (pm_and (pm_shr v 24) 255))]) (u' := [(132, pm_upd (pm_ct M 132) n (pm_and (pm_shr v 24) 255)), (116, pm_upd (pm_ct M 116) 23 ((n : Int) + 1))]) (M := M) lk_177_30 rfl (lay1.on (by decide) rfl) (fun h => absurd h (by decide)) rfl ?_
  refine g_iinc (ls' := [(2, ((116 : Nat) : Int)), (0, v), (0, 16)]) lk_177_33 rfl rfl rfl ?_
  refine g_goto (t := 3) lk_177_36 rfl ?_
  refine g_iload_n lk_177_3 rfl ?_
  refine g_if (t := 39) lk_177_4 rfl (by first | (unfold pm_inI; omega) | exact pm_and_in _ _ | exact pm_shr_in _ _ | exact pm_or_in _ _ | exact pm_xor_in _ _ | exact pm_shl_in _ _ | exact pm_cmp_in _ _ | exact pm_b8_in _ | (unfold pm_inI; split <;> omega)) (fun h => absurd h (show ¬ ((16 : Int) < (0 : Int)) by omega)) (fun _ => ?_)
  refine g_aload_n lk_177_7 rfl ?_
  refine g_getfield lk_177_8 rfl (lay2.on (by decide) rfl) (v := ((132 : Nat) : Int)) (lay2.rf rfl) ?_
  refine g_aload_n lk_177_11 rfl ?_
  refine m_getfield (u := [(132, pm_upd (pm_ct M 132) n (pm_and (pm_shr v 24) 255)), (116, pm_upd (pm_ct M 116) 23 ((n : Int) + 1))]) (M := M) lk_177_12 rfl (lay2.on (by decide) rfl) (v := ((n : Int) + 1)) rfl ?_
  refine g_iload_n lk_177_15 rfl ?_
  refine g_iload_n lk_177_16 rfl ?_
  refine g_ishr lk_177_17 ?_
  refine g_sipush lk_177_18 ?_
  refine g_iand lk_177_21 ?_
  have lay3 : Lay (Mu [(132, pm_upd (pm_upd (pm_ct M 132) n (pm_and (pm_shr v 24) 255)) (n + 1) (pm_and (pm_shr v 16) 255)), (116, pm_upd (pm_ct M 116) 23 ((n : Int) + 1))] M) := lay2.muA (l := [(132, pm_upd (pm_ct M 132) n (pm_and (pm_shr v 24) 255)), (116, pm_upd (pm_ct M 116) 23 ((n : Int) + 1))]) (a := 132) (f := pm_upd (pm_upd (pm_ct M 132) n (pm_and (pm_shr v 24) 255)) (n + 1) (pm_and (pm_shr v 16) 255)) rfl rfl
  refine m_iastore (u := [(132, pm_upd (pm_ct M 132) n (pm_and (pm_shr v 24) 255)), (116, pm_upd (pm_ct M 116) 23 ((n : Int) + 1))]) (u' := [(132, pm_upd (pm_upd (pm_ct M 132) n (pm_and (pm_shr v 24) 255)) (n + 1) (pm_and (pm_shr v 16) 255)), (116, pm_upd (pm_ct M 116) 23 ((n : Int) + 1))]) (M := M) lk_177_22 (lay2.ay (by decide) rfl) (by omega) (j := (n + 1)) (by omega) rfl ?_
  refine g_aload_n lk_177_23 rfl ?_
  refine g_dup lk_177_24 rfl ?_
  refine m_getfield (u := [(132, pm_upd (pm_upd (pm_ct M 132) n (pm_and (pm_shr v 24) 255)) (n + 1) (pm_and (pm_shr v 16) 255)), (116, pm_upd (pm_ct M 116) 23 ((n : Int) + 1))]) (M := M) lk_177_25 rfl (lay3.on (by decide) rfl) (v := ((n : Int) + 1)) rfl ?_
  refine g_iconst lk_177_28 ?_
  refine g_iadd lk_177_29 ?_
  have lay4 : Lay (Mu [(132, pm_upd (pm_upd (pm_ct M 132) n (pm_and (pm_shr v 24) 255)) (n + 1) (pm_and (pm_shr v 16) 255)), (116, pm_upd (pm_ct M 116) 23 (((n : Int) + 1) + 1))] M) := lay3.muF (l := [(132, pm_upd (pm_upd (pm_ct M 132) n (pm_and (pm_shr v 24) 255)) (n + 1) (pm_and (pm_shr v 16) 255)), (116, pm_upd (pm_ct M 116) 23 ((n : Int) + 1))]) (a := 116) (k := 23) (z := (((n : Int) + 1) + 1)) rfl (congrArg (fun F => [(132, pm_upd (pm_upd (pm_ct M 132) n (pm_and (pm_shr v 24) 255)) (n + 1) (pm_and (pm_shr v 16) 255)), (116, F)]) (pm_upd_upd _ _ _ _))
  refine m_putfield (u := [(132, pm_upd (pm_upd (pm_ct M 132) n (pm_and (pm_shr v 24) 255)) (n + 1) (pm_and (pm_shr v 16) 255)), (116, pm_upd (pm_ct M 116) 23 ((n : Int) + 1))]) (u' := [(132, pm_upd (pm_upd (pm_ct M 132) n (pm_and (pm_shr v 24) 255)) (n + 1) (pm_and (pm_shr v 16) 255)), (116, pm_upd (pm_ct M 116) 23 (((n : Int) + 1) + 1))]) (M := M) lk_177_30 rfl (lay3.on (by decide) rfl) (fun h => absurd h (by decide)) (congrArg (fun F => [(132, pm_upd (pm_upd (pm_ct M 132) n (pm_and (pm_shr v 24) 255)) (n + 1) (pm_and (pm_shr v 16) 255)), (116, F)]) (pm_upd_upd _ _ _ _)) ?_
  refine g_iinc (ls' := [(2, ((116 : Nat) : Int)), (0, v), (0, 8)]) lk_177_33 rfl rfl rfl ?_
  refine g_goto (t := 3) lk_177_36 rfl ?_
  refine g_iload_n lk_177_3 rfl ?_
  refine g_if (t := 39) lk_177_4 rfl (by first | (unfold pm_inI; omega) | exact pm_and_in _ _ | exact pm_shr_in _ _ | exact pm_or_in _ _ | exact pm_xor_in _ _ | exact pm_shl_in _ _ | exact pm_cmp_in _ _ | exact pm_b8_in _ | (unfold pm_inI; split <;> omega)) (fun h => absurd h (show ¬ ((8 : Int) < (0 : Int)) by omega)) (fun _ => ?_)
  refine g_aload_n lk_177_7 rfl ?_
  refine g_getfield lk_177_8 rfl (lay4.on (by decide) rfl) (v := ((132 : Nat) : Int)) (lay4.rf rfl) ?_
  refine g_aload_n lk_177_11 rfl ?_
  refine m_getfield (u := [(132, pm_upd (pm_upd (pm_ct M 132) n (pm_and (pm_shr v 24) 255)) (n + 1) (pm_and (pm_shr v 16) 255)), (116, pm_upd (pm_ct M 116) 23 (((n : Int) + 1) + 1))]) (M := M) lk_177_12 rfl (lay4.on (by decide) rfl) (v := (((n : Int) + 1) + 1)) rfl ?_
  refine g_iload_n lk_177_15 rfl ?_
  refine g_iload_n lk_177_16 rfl ?_
  refine g_ishr lk_177_17 ?_
  refine g_sipush lk_177_18 ?_
  refine g_iand lk_177_21 ?_
  have lay5 : Lay (Mu [(132, pm_upd (pm_upd (pm_upd (pm_ct M 132) n (pm_and (pm_shr v 24) 255)) (n + 1) (pm_and (pm_shr v 16) 255)) ((n + 1) + 1) (pm_and (pm_shr v 8) 255)), (116, pm_upd (pm_ct M 116) 23 (((n : Int) + 1) + 1))] M) := lay4.muA (l := [(132, pm_upd (pm_upd (pm_ct M 132) n (pm_and (pm_shr v 24) 255)) (n + 1) (pm_and (pm_shr v 16) 255)), (116, pm_upd (pm_ct M 116) 23 (((n : Int) + 1) + 1))]) (a := 132) (f := pm_upd (pm_upd (pm_upd (pm_ct M 132) n (pm_and (pm_shr v 24) 255)) (n + 1) (pm_and (pm_shr v 16) 255)) ((n + 1) + 1) (pm_and (pm_shr v 8) 255)) rfl rfl
  refine m_iastore (u := [(132, pm_upd (pm_upd (pm_ct M 132) n (pm_and (pm_shr v 24) 255)) (n + 1) (pm_and (pm_shr v 16) 255)), (116, pm_upd (pm_ct M 116) 23 (((n : Int) + 1) + 1))]) (u' := [(132, pm_upd (pm_upd (pm_upd (pm_ct M 132) n (pm_and (pm_shr v 24) 255)) (n + 1) (pm_and (pm_shr v 16) 255)) ((n + 1) + 1) (pm_and (pm_shr v 8) 255)), (116, pm_upd (pm_ct M 116) 23 (((n : Int) + 1) + 1))]) (M := M) lk_177_22 (lay4.ay (by decide) rfl) (by omega) (j := ((n + 1) + 1)) (by omega) rfl ?_
  refine g_aload_n lk_177_23 rfl ?_
  refine g_dup lk_177_24 rfl ?_
  refine m_getfield (u := [(132, pm_upd (pm_upd (pm_upd (pm_ct M 132) n (pm_and (pm_shr v 24) 255)) (n + 1) (pm_and (pm_shr v 16) 255)) ((n + 1) + 1) (pm_and (pm_shr v 8) 255)), (116, pm_upd (pm_ct M 116) 23 (((n : Int) + 1) + 1))]) (M := M) lk_177_25 rfl (lay5.on (by decide) rfl) (v := (((n : Int) + 1) + 1)) rfl ?_
  refine g_iconst lk_177_28 ?_
  refine g_iadd lk_177_29 ?_
  have lay6 : Lay (Mu [(132, pm_upd (pm_upd (pm_upd (pm_ct M 132) n (pm_and (pm_shr v 24) 255)) (n + 1) (pm_and (pm_shr v 16) 255)) ((n + 1) + 1) (pm_and (pm_shr v 8) 255)), (116, pm_upd (pm_ct M 116) 23 ((((n : Int) + 1) + 1) + 1))] M) := lay5.muF (l := [(132, pm_upd (pm_upd (pm_upd (pm_ct M 132) n (pm_and (pm_shr v 24) 255)) (n + 1) (pm_and (pm_shr v 16) 255)) ((n + 1) + 1) (pm_and (pm_shr v 8) 255)), (116, pm_upd (pm_ct M 116) 23 (((n : Int) + 1) + 1))]) (a := 116) (k := 23) (z := ((((n : Int) + 1) + 1) + 1)) rfl (congrArg (fun F => [(132, pm_upd (pm_upd (pm_upd (pm_ct M 132) n (pm_and (pm_shr v 24) 255)) (n + 1) (pm_and (pm_shr v 16) 255)) ((n + 1) + 1) (pm_and (pm_shr v 8) 255)), (116, F)]) (pm_upd_upd _ _ _ _))
  refine m_putfield (u := [(132, pm_upd (pm_upd (pm_upd (pm_ct M 132) n (pm_and (pm_shr v 24) 255)) (n + 1) (pm_and (pm_shr v 16) 255)) ((n + 1) + 1) (pm_and (pm_shr v 8) 255)), (116, pm_upd (pm_ct M 116) 23 (((n : Int) + 1) + 1))]) (u' := [(132, pm_upd (pm_upd (pm_upd (pm_ct M 132) n (pm_and (pm_shr v 24) 255)) (n + 1) (pm_and (pm_shr v 16) 255)) ((n + 1) + 1) (pm_and (pm_shr v 8) 255)), (116, pm_upd (pm_ct M 116) 23 ((((n : Int) + 1) + 1) + 1))]) (M := M) lk_177_30 rfl (lay5.on (by decide) rfl) (fun h => absurd h (by decide)) (congrArg (fun F => [(132, pm_upd (pm_upd (pm_upd (pm_ct M 132) n (pm_and (pm_shr v 24) 255)) (n + 1) (pm_and (pm_shr v 16) 255)) ((n + 1) + 1) (pm_and (pm_shr v 8) 255)), (116, F)]) (pm_upd_upd _ _ _ _)) ?_
  refine g_iinc (ls' := [(2, ((116 : Nat) : Int)), (0, v), (0, 0)]) lk_177_33 rfl rfl rfl ?_
  refine g_goto (t := 3) lk_177_36 rfl ?_
  refine g_iload_n lk_177_3 rfl ?_
  refine g_if (t := 39) lk_177_4 rfl (by first | (unfold pm_inI; omega) | exact pm_and_in _ _ | exact pm_shr_in _ _ | exact pm_or_in _ _ | exact pm_xor_in _ _ | exact pm_shl_in _ _ | exact pm_cmp_in _ _ | exact pm_b8_in _ | (unfold pm_inI; split <;> omega)) (fun h => absurd h (show ¬ ((0 : Int) < (0 : Int)) by omega)) (fun _ => ?_)
  refine g_aload_n lk_177_7 rfl ?_
  refine g_getfield lk_177_8 rfl (lay6.on (by decide) rfl) (v := ((132 : Nat) : Int)) (lay6.rf rfl) ?_
  refine g_aload_n lk_177_11 rfl ?_
  refine m_getfield (u := [(132, pm_upd (pm_upd (pm_upd (pm_ct M 132) n (pm_and (pm_shr v 24) 255)) (n + 1) (pm_and (pm_shr v 16) 255)) ((n + 1) + 1) (pm_and (pm_shr v 8) 255)), (116, pm_upd (pm_ct M 116) 23 ((((n : Int) + 1) + 1) + 1))]) (M := M) lk_177_12 rfl (lay6.on (by decide) rfl) (v := ((((n : Int) + 1) + 1) + 1)) rfl ?_
  refine g_iload_n lk_177_15 rfl ?_
  refine g_iload_n lk_177_16 rfl ?_
  refine g_ishr lk_177_17 ?_
  refine g_sipush lk_177_18 ?_
  refine g_iand lk_177_21 ?_
  have lay7 : Lay (Mu [(132, pm_upd (pm_upd (pm_upd (pm_upd (pm_ct M 132) n (pm_and (pm_shr v 24) 255)) (n + 1) (pm_and (pm_shr v 16) 255)) ((n + 1) + 1) (pm_and (pm_shr v 8) 255)) (((n + 1) + 1) + 1) (pm_and (pm_shr v 0) 255)), (116, pm_upd (pm_ct M 116) 23 ((((n : Int) + 1) + 1) + 1))] M) := lay6.muA (l := [(132, pm_upd (pm_upd (pm_upd (pm_ct M 132) n (pm_and (pm_shr v 24) 255)) (n + 1) (pm_and (pm_shr v 16) 255)) ((n + 1) + 1) (pm_and (pm_shr v 8) 255)), (116, pm_upd (pm_ct M 116) 23 ((((n : Int) + 1) + 1) + 1))]) (a := 132) (f := pm_upd (pm_upd (pm_upd (pm_upd (pm_ct M 132) n (pm_and (pm_shr v 24) 255)) (n + 1) (pm_and (pm_shr v 16) 255)) ((n + 1) + 1) (pm_and (pm_shr v 8) 255)) (((n + 1) + 1) + 1) (pm_and (pm_shr v 0) 255)) rfl rfl
  refine m_iastore (u := [(132, pm_upd (pm_upd (pm_upd (pm_ct M 132) n (pm_and (pm_shr v 24) 255)) (n + 1) (pm_and (pm_shr v 16) 255)) ((n + 1) + 1) (pm_and (pm_shr v 8) 255)), (116, pm_upd (pm_ct M 116) 23 ((((n : Int) + 1) + 1) + 1))]) (u' := [(132, pm_upd (pm_upd (pm_upd (pm_upd (pm_ct M 132) n (pm_and (pm_shr v 24) 255)) (n + 1) (pm_and (pm_shr v 16) 255)) ((n + 1) + 1) (pm_and (pm_shr v 8) 255)) (((n + 1) + 1) + 1) (pm_and (pm_shr v 0) 255)), (116, pm_upd (pm_ct M 116) 23 ((((n : Int) + 1) + 1) + 1))]) (M := M) lk_177_22 (lay6.ay (by decide) rfl) (by omega) (j := (((n + 1) + 1) + 1)) (by omega) rfl ?_
  refine g_aload_n lk_177_23 rfl ?_
  refine g_dup lk_177_24 rfl ?_
  refine m_getfield (u := [(132, pm_upd (pm_upd (pm_upd (pm_upd (pm_ct M 132) n (pm_and (pm_shr v 24) 255)) (n + 1) (pm_and (pm_shr v 16) 255)) ((n + 1) + 1) (pm_and (pm_shr v 8) 255)) (((n + 1) + 1) + 1) (pm_and (pm_shr v 0) 255)), (116, pm_upd (pm_ct M 116) 23 ((((n : Int) + 1) + 1) + 1))]) (M := M) lk_177_25 rfl (lay7.on (by decide) rfl) (v := ((((n : Int) + 1) + 1) + 1)) rfl ?_
  refine g_iconst lk_177_28 ?_
  refine g_iadd lk_177_29 ?_
  have lay8 : Lay (Mu [(132, pm_upd (pm_upd (pm_upd (pm_upd (pm_ct M 132) n (pm_and (pm_shr v 24) 255)) (n + 1) (pm_and (pm_shr v 16) 255)) ((n + 1) + 1) (pm_and (pm_shr v 8) 255)) (((n + 1) + 1) + 1) (pm_and (pm_shr v 0) 255)), (116, pm_upd (pm_ct M 116) 23 (((((n : Int) + 1) + 1) + 1) + 1))] M) := lay7.muF (l := [(132, pm_upd (pm_upd (pm_upd (pm_upd (pm_ct M 132) n (pm_and (pm_shr v 24) 255)) (n + 1) (pm_and (pm_shr v 16) 255)) ((n + 1) + 1) (pm_and (pm_shr v 8) 255)) (((n + 1) + 1) + 1) (pm_and (pm_shr v 0) 255)), (116, pm_upd (pm_ct M 116) 23 ((((n : Int) + 1) + 1) + 1))]) (a := 116) (k := 23) (z := (((((n : Int) + 1) + 1) + 1) + 1)) rfl (congrArg (fun F => [(132, pm_upd (pm_upd (pm_upd (pm_upd (pm_ct M 132) n (pm_and (pm_shr v 24) 255)) (n + 1) (pm_and (pm_shr v 16) 255)) ((n + 1) + 1) (pm_and (pm_shr v 8) 255)) (((n + 1) + 1) + 1) (pm_and (pm_shr v 0) 255)), (116, F)]) (pm_upd_upd _ _ _ _))
  refine m_putfield (u := [(132, pm_upd (pm_upd (pm_upd (pm_upd (pm_ct M 132) n (pm_and (pm_shr v 24) 255)) (n + 1) (pm_and (pm_shr v 16) 255)) ((n + 1) + 1) (pm_and (pm_shr v 8) 255)) (((n + 1) + 1) + 1) (pm_and (pm_shr v 0) 255)), (116, pm_upd (pm_ct M 116) 23 ((((n : Int) + 1) + 1) + 1))]) (u' := [(132, pm_upd (pm_upd (pm_upd (pm_upd (pm_ct M 132) n (pm_and (pm_shr v 24) 255)) (n + 1) (pm_and (pm_shr v 16) 255)) ((n + 1) + 1) (pm_and (pm_shr v 8) 255)) (((n + 1) + 1) + 1) (pm_and (pm_shr v 0) 255)), (116, pm_upd (pm_ct M 116) 23 (((((n : Int) + 1) + 1) + 1) + 1))]) (M := M) lk_177_30 rfl (lay7.on (by decide) rfl) (fun h => absurd h (by decide)) (congrArg (fun F => [(132, pm_upd (pm_upd (pm_upd (pm_upd (pm_ct M 132) n (pm_and (pm_shr v 24) 255)) (n + 1) (pm_and (pm_shr v 16) 255)) ((n + 1) + 1) (pm_and (pm_shr v 8) 255)) (((n + 1) + 1) + 1) (pm_and (pm_shr v 0) 255)), (116, F)]) (pm_upd_upd _ _ _ _)) ?_
  refine g_iinc (ls' := [(2, ((116 : Nat) : Int)), (0, v), (0, (-8))]) lk_177_33 rfl rfl rfl ?_
  refine g_goto (t := 3) lk_177_36 rfl ?_
  refine g_iload_n lk_177_3 rfl ?_
  refine g_if (t := 39) lk_177_4 rfl (by first | (unfold pm_inI; omega) | exact pm_and_in _ _ | exact pm_shr_in _ _ | exact pm_or_in _ _ | exact pm_xor_in _ _ | exact pm_shl_in _ _ | exact pm_cmp_in _ _ | exact pm_b8_in _ | (unfold pm_inI; split <;> omega)) (fun _ => ?_) (fun h => absurd (show (-8 : Int) < (0 : Int) by omega) h)
  refine g_return lk_177_39 ?_
  refine ⟨rfl, _, rfl, lay8, ?_, ?_⟩
  · rw [Mu_ct]; rfl
  · intro i hi
    rw [Mu_ct]
    obtain ⟨s1, s2, s3, s4⟩ := pm_sh0 hv
    show pm_upd (pm_upd (pm_upd (pm_upd (pm_ct M 132) n _) (n + 1) _) (n + 1 + 1) _) (n + 1 + 1 + 1) _ i = _
    unfold tp4 pm_upd
    rw [s1, s2, s3, s4]
    by_cases c3 : i = n + 3
    · subst c3; simp [pm_and255]
    by_cases c2 : i = n + 2
    · subst c2; simp [pm_and255]
    by_cases c1 : i = n + 1
    · subst c1; simp [pm_and255]
    by_cases c0 : i = n
    · subst c0; simp [pm_and255, show ¬ i = i + 1 + 1 + 1 by omega, show ¬ i = i + 1 + 1 by omega]
    · simp only [if_neg c0, if_neg c1, if_neg (show ¬ i = n + 1 + 1 by omega), if_neg (show ¬ i = n + 1 + 1 + 1 by omega), if_neg c2, if_neg c3]
      exact hM.2 i (by omega)
theorem mu_x {M : pm_M} {f f' : Nat → Int} {z z' : Int} : Mu [(3, f'), (2, pm_upd (pm_ct (Mu [(3, f), (2, pm_upd (pm_ct M 2) 4 z)] M) 2) 4 z')] (Mu [(3, f), (2, pm_upd (pm_ct M 2) 4 z)] M) = Mu [(3, f'), (2, pm_upd (pm_ct M 2) 4 z')] M := by
  rw [Mu_aus, Mu_ct]
  show Mu [(3, f'), (2, pm_upd (pm_upd (pm_ct M 2) 4 z) 4 z')] M = _
  rw [pm_upd_upd]
theorem mu_m {M : pm_M} {f f' : Nat → Int} {z z' : Int} : Mu [(132, f'), (116, pm_upd (pm_ct (Mu [(132, f), (116, pm_upd (pm_ct M 116) 23 z)] M) 116) 23 z')] (Mu [(132, f), (116, pm_upd (pm_ct M 116) 23 z)] M) = Mu [(132, f'), (116, pm_upd (pm_ct M 116) 23 z')] M := by
  rw [Mu_aus, Mu_ct]
  show Mu [(132, f'), (116, pm_upd (pm_upd (pm_ct M 116) 23 z) 23 z')] M = _
  rw [pm_upd_upd]
/-- the tape behind a feed -/
def tp20 (n : Nat) (tp : Nat → Int) (a b c d e : Int) : Nat → Int := tp4 (n + 16) (tp4 (n + 12) (tp4 (n + 8) (tp4 (n + 4) (tp4 n tp a) b) c) d) e
set_option maxHeartbeats 4000000 in
theorem c_X_feed {D mc ms : Nat} {M : pm_M} (lay : Lay M) {n : Nat} {tp : Nat → Int} (hM : TpX M n tp) (hn : n ≤ 500) {a b c d e : Int} (ha : pm_inI a) (hb : pm_inI b) (hc : pm_inI c) (hd : pm_inI d) (he : pm_inI e) :
    pm_E (D + 1) 119 [(2, ((1 : Nat) : Int)), (0, a), (0, b), (0, c), (0, d), (0, e)] M mc ms (fun ρ M' => (500 < n + 20 ∧ ρ = some (0, -1) ∧ M' = M) ∨ (n + 20 ≤ 500 ∧ ρ = some (0, ((n + 20 : Nat) : Int)) ∧ Lay M' ∧ TpX M' (n + 20) (tp20 n tp a b c d e) ∧ ∃ f, M' = Mu [(3, f), (2, pm_upd (pm_ct M 2) 4 ((n + 20 : Nat) : Int))] M)) := by
  obtain ⟨Q, hQ⟩ : ∃ Q : pm_Q, Q = (fun ρ M' => (500 < n + 20 ∧ ρ = some (0, -1) ∧ M' = M) ∨ (n + 20 ≤ 500 ∧ ρ = some (0, ((n + 20 : Nat) : Int)) ∧ Lay M' ∧ TpX M' (n + 20) (tp20 n tp a b c d e) ∧ ∃ f, M' = Mu [(3, f), (2, pm_upd (pm_ct M 2) 4 ((n + 20 : Nat) : Int))] M)) := ⟨_, rfl⟩
  rw [← hQ]
  have k60 : n + 20 ≤ 500 → ∀ (N : pm_M) (f : Nat → Int), N = Mu [(3, f), (2, pm_upd (pm_ct M 2) 4 ((n + 20 : Nat) : Int))] M → Lay N → TpX N (n + 20) (tp20 n tp a b c d e) → Wp (D + 1) 119 60 [(2, ((1 : Nat) : Int)), (0, a), (0, b), (0, c), (0, d), (0, e)] [] N mc ms Q := by
    intro hlt N f hN lay hT
    refine g_aload_n lk_119_60 rfl ?_
    refine g_getfield lk_119_61 rfl (lay.on (by decide) rfl) (v := ((2 : Nat) : Int)) (lay.rf rfl) ?_
    refine m_getfield (u := []) (M := N) lk_119_64 rfl (lay.on (by decide) rfl) (v := ((n + 20 : Nat) : Int)) hT.1 ?_
    refine g_ireturn lk_119_67 (fun h => absurd h (by decide)) ?_
    rw [hQ]
    exact Or.inr ⟨hlt, rfl, lay, hT, f, hN⟩
  have k51 : n + 20 ≤ 500 → ∀ (N : pm_M) (f : Nat → Int), N = Mu [(3, f), (2, pm_upd (pm_ct M 2) 4 ((n + 12 + 4 : Nat) : Int))] M → Lay N → TpX N (n + 12 + 4) (tp4 (n + 12) (tp4 (n + 8) (tp4 (n + 4) (tp4 n tp a) b) c) d) → Wp (D + 1) 119 51 [(2, ((1 : Nat) : Int)), (0, a), (0, b), (0, c), (0, d), (0, e)] [] N mc ms Q := by
    intro hlt N f hN lay hT
    refine g_aload_n lk_119_51 rfl ?_
    refine g_getfield lk_119_52 rfl (lay.on (by decide) rfl) (v := ((2 : Nat) : Int)) (lay.rf rfl) ?_
    refine g_iload lk_119_55 rfl ?_
    refine g_virtual (p := 2) (Qc := _) lk_119_57 rfl (Nat.le_of_ble_eq_true rfl) rfl rfl (lay.on (by decide) rfl) (Nat.le_of_ble_eq_true rfl) (Nat.le_of_ble_eq_true rfl) (Nat.zero_le _) (Nat.zero_le _) (c_Reader_append lay hT (by omega) he) ?_
    rintro _ _ ⟨rfl, f', hN', lay', hT'⟩
    exact k60 hlt _ f' (by rw [hN', hN]; exact mu_x) lay' hT'
  have k42 : n + 20 ≤ 500 → ∀ (N : pm_M) (f : Nat → Int), N = Mu [(3, f), (2, pm_upd (pm_ct M 2) 4 ((n + 8 + 4 : Nat) : Int))] M → Lay N → TpX N (n + 8 + 4) (tp4 (n + 8) (tp4 (n + 4) (tp4 n tp a) b) c) → Wp (D + 1) 119 42 [(2, ((1 : Nat) : Int)), (0, a), (0, b), (0, c), (0, d), (0, e)] [] N mc ms Q := by
    intro hlt N f hN lay hT
    refine g_aload_n lk_119_42 rfl ?_
    refine g_getfield lk_119_43 rfl (lay.on (by decide) rfl) (v := ((2 : Nat) : Int)) (lay.rf rfl) ?_
    refine g_iload lk_119_46 rfl ?_
    refine g_virtual (p := 2) (Qc := _) lk_119_48 rfl (Nat.le_of_ble_eq_true rfl) rfl rfl (lay.on (by decide) rfl) (Nat.le_of_ble_eq_true rfl) (Nat.le_of_ble_eq_true rfl) (Nat.zero_le _) (Nat.zero_le _) (c_Reader_append lay hT (by omega) hd) ?_
    rintro _ _ ⟨rfl, f', hN', lay', hT'⟩
    exact k51 hlt _ f' (by rw [hN', hN]; exact mu_x) lay' hT'
  have k34 : n + 20 ≤ 500 → ∀ (N : pm_M) (f : Nat → Int), N = Mu [(3, f), (2, pm_upd (pm_ct M 2) 4 ((n + 4 + 4 : Nat) : Int))] M → Lay N → TpX N (n + 4 + 4) (tp4 (n + 4) (tp4 n tp a) b) → Wp (D + 1) 119 34 [(2, ((1 : Nat) : Int)), (0, a), (0, b), (0, c), (0, d), (0, e)] [] N mc ms Q := by
    intro hlt N f hN lay hT
    refine g_aload_n lk_119_34 rfl ?_
    refine g_getfield lk_119_35 rfl (lay.on (by decide) rfl) (v := ((2 : Nat) : Int)) (lay.rf rfl) ?_
    refine g_iload_n lk_119_38 rfl ?_
    refine g_virtual (p := 2) (Qc := _) lk_119_39 rfl (Nat.le_of_ble_eq_true rfl) rfl rfl (lay.on (by decide) rfl) (Nat.le_of_ble_eq_true rfl) (Nat.le_of_ble_eq_true rfl) (Nat.zero_le _) (Nat.zero_le _) (c_Reader_append lay hT (by omega) hc) ?_
    rintro _ _ ⟨rfl, f', hN', lay', hT'⟩
    exact k42 hlt _ f' (by rw [hN', hN]; exact mu_x) lay' hT'
  have k26 : n + 20 ≤ 500 → ∀ (N : pm_M) (f : Nat → Int), N = Mu [(3, f), (2, pm_upd (pm_ct M 2) 4 ((n + 4 : Nat) : Int))] M → Lay N → TpX N (n + 4) (tp4 n tp a) → Wp (D + 1) 119 26 [(2, ((1 : Nat) : Int)), (0, a), (0, b), (0, c), (0, d), (0, e)] [] N mc ms Q := by
    intro hlt N f hN lay hT
    refine g_aload_n lk_119_26 rfl ?_
    refine g_getfield lk_119_27 rfl (lay.on (by decide) rfl) (v := ((2 : Nat) : Int)) (lay.rf rfl) ?_
    refine g_iload_n lk_119_30 rfl ?_
    refine g_virtual (p := 2) (Qc := _) lk_119_31 rfl (Nat.le_of_ble_eq_true rfl) rfl rfl (lay.on (by decide) rfl) (Nat.le_of_ble_eq_true rfl) (Nat.le_of_ble_eq_true rfl) (Nat.zero_le _) (Nat.zero_le _) (c_Reader_append lay hT (by omega) hb) ?_
    rintro _ _ ⟨rfl, f', hN', lay', hT'⟩
    exact k34 hlt _ f' (by rw [hN', hN]; exact mu_x) lay' hT'
  show Wp (D + 1) 119 0 [(2, ((1 : Nat) : Int)), (0, a), (0, b), (0, c), (0, d), (0, e)] [] M mc ms Q
  refine g_aload_n lk_119_0 rfl ?_
  refine g_getfield lk_119_1 rfl (lay.on (by decide) rfl) (v := ((2 : Nat) : Int)) (lay.rf rfl) ?_
  refine m_getfield (u := []) (M := M) lk_119_4 rfl (lay.on (by decide) rfl) (v := (n : Int)) hM.1 ?_
  refine g_bipush lk_119_7 ?_
  refine g_iadd lk_119_9 ?_
  refine g_sipush lk_119_10 ?_
  refine g_icmp (t := 18) lk_119_13 rfl (by first | (unfold pm_inI; omega) | exact pm_and_in _ _ | exact pm_shr_in _ _ | exact pm_or_in _ _ | exact pm_xor_in _ _ | exact pm_shl_in _ _ | exact pm_cmp_in _ _ | exact pm_b8_in _ | (unfold pm_inI; split <;> omega)) (by first | (unfold pm_inI; omega) | exact pm_and_in _ _ | exact pm_shr_in _ _ | exact pm_or_in _ _ | exact pm_xor_in _ _ | exact pm_shl_in _ _ | exact pm_cmp_in _ _ | exact pm_b8_in _ | (unfold pm_inI; split <;> omega)) (fun h1 => ?_) (fun h1 => ?_)
  · replace h1 : ((n : Int) + 20) ≤ 500 := h1
    refine g_aload_n lk_119_18 rfl ?_
    refine g_getfield lk_119_19 rfl (lay.on (by decide) rfl) (v := ((2 : Nat) : Int)) (lay.rf rfl) ?_
    refine g_iload_n lk_119_22 rfl ?_
    refine g_virtual (p := 2) (Qc := _) lk_119_23 rfl (Nat.le_of_ble_eq_true rfl) rfl rfl (lay.on (by decide) rfl) (Nat.le_of_ble_eq_true rfl) (Nat.le_of_ble_eq_true rfl) (Nat.zero_le _) (Nat.zero_le _) (c_Reader_append lay hM (by omega) ha) ?_
    rintro _ _ ⟨rfl, f', hN', lay', hT'⟩
    exact k26 (by omega) _ f' hN' lay' hT'
  · replace h1 : ¬ (((n : Int) + 20) ≤ 500) := h1
    refine g_iconst lk_119_16 ?_
    refine g_ireturn lk_119_17 (fun h => absurd h (by decide)) ?_
    rw [hQ]
    exact Or.inl ⟨by omega, rfl, rfl⟩
set_option maxHeartbeats 4000000 in
theorem c_Mo_feed {D mc ms : Nat} {M : pm_M} (lay : Lay M) {n : Nat} {tp : Nat → Int} (hM : TpM M n tp) (hn : n ≤ 500) {a b c d e : Int} (ha : pm_inI a) (hb : pm_inI b) (hc : pm_inI c) (hd : pm_inI d) (he : pm_inI e) :
    pm_E (D + 1) 178 [(2, ((116 : Nat) : Int)), (0, a), (0, b), (0, c), (0, d), (0, e)] M mc ms (fun ρ M' => (500 < n + 20 ∧ ρ = some (0, -1) ∧ Lay M' ∧ M' = Mu [(116, pm_upd (pm_ct M 116) 0 0)] M) ∨ (n + 20 ≤ 500 ∧ ρ = some (0, ((n + 20 : Nat) : Int)) ∧ Lay M' ∧ TpM M' (n + 20) (tp20 n tp a b c d e) ∧ ∃ f, M' = Mu [(116, pm_upd (pm_upd (pm_ct M 116) 0 0) 23 ((n + 20 : Nat) : Int)), (132, f)] M)) := by
  obtain ⟨Q, hQ⟩ : ∃ Q : pm_Q, Q = (fun ρ M' => (500 < n + 20 ∧ ρ = some (0, -1) ∧ Lay M' ∧ M' = Mu [(116, pm_upd (pm_ct M 116) 0 0)] M) ∨ (n + 20 ≤ 500 ∧ ρ = some (0, ((n + 20 : Nat) : Int)) ∧ Lay M' ∧ TpM M' (n + 20) (tp20 n tp a b c d e) ∧ ∃ f, M' = Mu [(116, pm_upd (pm_upd (pm_ct M 116) 0 0) 23 ((n + 20 : Nat) : Int)), (132, f)] M)) := ⟨_, rfl⟩
  rw [← hQ]
  obtain ⟨N0, hN0⟩ : ∃ N0, N0 = Mu [(116, pm_upd (pm_ct M 116) 0 0)] M := ⟨_, rfl⟩
  have k47 : n + 20 ≤ 500 → ∀ (N : pm_M) (f : Nat → Int), N = Mu [(132, f), (116, pm_upd (pm_ct N0 116) 23 ((n + 20 : Nat) : Int))] N0 → Lay N → TpM N (n + 20) (tp20 n tp a b c d e) → Wp (D + 1) 178 47 [(2, ((116 : Nat) : Int)), (0, a), (0, b), (0, c), (0, d), (0, e)] [] N mc ms Q := by
    intro hlt N f hN lay hT
    refine g_aload_n lk_178_47 rfl ?_
    refine m_getfield (u := []) (M := N) lk_178_48 rfl (lay.on (by decide) rfl) (v := ((n + 20 : Nat) : Int)) hT.1 ?_
    refine g_ireturn lk_178_51 (fun h => absurd h (by decide)) ?_
    rw [hQ]
    refine Or.inr ⟨hlt, rfl, lay, hT, f, ?_⟩
    rw [hN, hN0, Mu_ct]
    exact Mu_aus [(132, f), (116, _)] [(116, _)] M
  have k41 : n + 20 ≤ 500 → ∀ (N : pm_M) (f : Nat → Int), N = Mu [(132, f), (116, pm_upd (pm_ct N0 116) 23 ((n + 12 + 4 : Nat) : Int))] N0 → Lay N → TpM N (n + 12 + 4) (tp4 (n + 12) (tp4 (n + 8) (tp4 (n + 4) (tp4 n tp a) b) c) d) → Wp (D + 1) 178 41 [(2, ((116 : Nat) : Int)), (0, a), (0, b), (0, c), (0, d), (0, e)] [] N mc ms Q := by
    intro hlt N f hN lay hT
    refine g_aload_n lk_178_41 rfl ?_
    refine g_iload lk_178_42 rfl ?_
    refine g_virtual (p := 116) (Qc := _) lk_178_44 rfl (Nat.le_of_ble_eq_true rfl) rfl rfl (lay.on (by decide) rfl) (Nat.le_of_ble_eq_true rfl) (Nat.le_of_ble_eq_true rfl) (Nat.zero_le _) (Nat.zero_le _) (c_Mo_four lay hT (by omega) he) ?_
    rintro _ _ ⟨rfl, f', hN', lay', hT'⟩
    exact k47 hlt _ f' (by rw [hN', hN]; exact mu_m) lay' hT'
  have k35 : n + 20 ≤ 500 → ∀ (N : pm_M) (f : Nat → Int), N = Mu [(132, f), (116, pm_upd (pm_ct N0 116) 23 ((n + 8 + 4 : Nat) : Int))] N0 → Lay N → TpM N (n + 8 + 4) (tp4 (n + 8) (tp4 (n + 4) (tp4 n tp a) b) c) → Wp (D + 1) 178 35 [(2, ((116 : Nat) : Int)), (0, a), (0, b), (0, c), (0, d), (0, e)] [] N mc ms Q := by
    intro hlt N f hN lay hT
    refine g_aload_n lk_178_35 rfl ?_
    refine g_iload lk_178_36 rfl ?_
    refine g_virtual (p := 116) (Qc := _) lk_178_38 rfl (Nat.le_of_ble_eq_true rfl) rfl rfl (lay.on (by decide) rfl) (Nat.le_of_ble_eq_true rfl) (Nat.le_of_ble_eq_true rfl) (Nat.zero_le _) (Nat.zero_le _) (c_Mo_four lay hT (by omega) hd) ?_
    rintro _ _ ⟨rfl, f', hN', lay', hT'⟩
    exact k41 hlt _ f' (by rw [hN', hN]; exact mu_m) lay' hT'
  have k30 : n + 20 ≤ 500 → ∀ (N : pm_M) (f : Nat → Int), N = Mu [(132, f), (116, pm_upd (pm_ct N0 116) 23 ((n + 4 + 4 : Nat) : Int))] N0 → Lay N → TpM N (n + 4 + 4) (tp4 (n + 4) (tp4 n tp a) b) → Wp (D + 1) 178 30 [(2, ((116 : Nat) : Int)), (0, a), (0, b), (0, c), (0, d), (0, e)] [] N mc ms Q := by
    intro hlt N f hN lay hT
    refine g_aload_n lk_178_30 rfl ?_
    refine g_iload_n lk_178_31 rfl ?_
    refine g_virtual (p := 116) (Qc := _) lk_178_32 rfl (Nat.le_of_ble_eq_true rfl) rfl rfl (lay.on (by decide) rfl) (Nat.le_of_ble_eq_true rfl) (Nat.le_of_ble_eq_true rfl) (Nat.zero_le _) (Nat.zero_le _) (c_Mo_four lay hT (by omega) hc) ?_
    rintro _ _ ⟨rfl, f', hN', lay', hT'⟩
    exact k35 hlt _ f' (by rw [hN', hN]; exact mu_m) lay' hT'
  have k25 : n + 20 ≤ 500 → ∀ (N : pm_M) (f : Nat → Int), N = Mu [(132, f), (116, pm_upd (pm_ct N0 116) 23 ((n + 4 : Nat) : Int))] N0 → Lay N → TpM N (n + 4) (tp4 n tp a) → Wp (D + 1) 178 25 [(2, ((116 : Nat) : Int)), (0, a), (0, b), (0, c), (0, d), (0, e)] [] N mc ms Q := by
    intro hlt N f hN lay hT
    refine g_aload_n lk_178_25 rfl ?_
    refine g_iload_n lk_178_26 rfl ?_
    refine g_virtual (p := 116) (Qc := _) lk_178_27 rfl (Nat.le_of_ble_eq_true rfl) rfl rfl (lay.on (by decide) rfl) (Nat.le_of_ble_eq_true rfl) (Nat.le_of_ble_eq_true rfl) (Nat.zero_le _) (Nat.zero_le _) (c_Mo_four lay hT (by omega) hb) ?_
    rintro _ _ ⟨rfl, f', hN', lay', hT'⟩
    exact k30 hlt _ f' (by rw [hN', hN]; exact mu_m) lay' hT'
  show Wp (D + 1) 178 0 [(2, ((116 : Nat) : Int)), (0, a), (0, b), (0, c), (0, d), (0, e)] [] M mc ms Q
  refine g_aload_n lk_178_0 rfl ?_
  refine g_iconst lk_178_1 ?_
  have lay1 : Lay (Mu [(116, pm_upd (pm_ct M 116) 0 0)] M) := lay.muF (l := []) (a := 116) (k := 0) (z := 0) rfl rfl
  refine m_putfield (u := []) (u' := [(116, pm_upd (pm_ct M 116) 0 0)]) (M := M) lk_178_2 rfl (lay.on (by decide) rfl) (fun h => absurd h (by decide)) rfl ?_
  refine g_aload_n lk_178_5 rfl ?_
  refine m_getfield (u := [(116, pm_upd (pm_ct M 116) 0 0)]) (M := M) lk_178_6 rfl (lay1.on (by decide) rfl) (v := (n : Int)) hM.1 ?_
  refine g_bipush lk_178_9 ?_
  refine g_iadd lk_178_11 ?_
  refine g_sipush lk_178_12 ?_
  refine g_icmp (t := 20) lk_178_15 rfl (by first | (unfold pm_inI; omega) | exact pm_and_in _ _ | exact pm_shr_in _ _ | exact pm_or_in _ _ | exact pm_xor_in _ _ | exact pm_shl_in _ _ | exact pm_cmp_in _ _ | exact pm_b8_in _ | (unfold pm_inI; split <;> omega)) (by first | (unfold pm_inI; omega) | exact pm_and_in _ _ | exact pm_shr_in _ _ | exact pm_or_in _ _ | exact pm_xor_in _ _ | exact pm_shl_in _ _ | exact pm_cmp_in _ _ | exact pm_b8_in _ | (unfold pm_inI; split <;> omega)) (fun h2 => ?_) (fun h2 => ?_)
  · replace h2 : ((n : Int) + 20) ≤ 500 := h2
    refine g_aload_n lk_178_20 rfl ?_
    refine g_iload_n lk_178_21 rfl ?_
    refine g_virtual (p := 116) (Qc := _) lk_178_22 rfl (Nat.le_of_ble_eq_true rfl) rfl rfl (lay1.on (by decide) rfl) (Nat.le_of_ble_eq_true rfl) (Nat.le_of_ble_eq_true rfl) (Nat.zero_le _) (Nat.zero_le _) (c_Mo_four lay1 (n := n) (tp := tp) hM (by omega) ha) ?_
    rintro _ _ ⟨rfl, f', hN', lay', hT'⟩
    exact k25 (by omega) _ f' (by rw [hN', hN0]) lay' hT'
  · replace h2 : ¬ (((n : Int) + 20) ≤ 500) := h2
    refine g_iconst lk_178_18 ?_
    refine g_ireturn lk_178_19 (fun h => absurd h (by decide)) ?_
    rw [hQ]
    exact Or.inl ⟨by omega, rfl, lay1, rfl⟩
theorem c_X_end {D mc ms : Nat} {M : pm_M} (lay : Lay M) {n : Nat} {tp : Nat → Int} (hM : TpX M n tp) (hn : n ≤ 500) {a : Int} (ha : pm_inI a) :
    pm_E D 120 [(2, ((1 : Nat) : Int)), (0, a)] M mc ms (fun ρ M' => (¬ (0 ≤ a ∧ a ≤ n) ∧ ρ = some (0, -1) ∧ M' = M) ∨ ((0 ≤ a ∧ a ≤ n) ∧ ρ = some (0, a) ∧ Lay M' ∧ TpX M' a.toNat tp ∧ M' = Mu [(2, pm_upd (pm_ct M 2) 4 a)] M)) := by
  have ha' := ha
  unfold pm_inI at ha'
  show Wp D 120 0 [(2, ((1 : Nat) : Int)), (0, a)] [] M mc ms _
  refine g_iload_n lk_120_0 rfl ?_
  refine g_if (t := 15) lk_120_1 rfl (by first | (unfold pm_inI; omega) | exact pm_and_in _ _ | exact pm_shr_in _ _ | exact pm_or_in _ _ | exact pm_xor_in _ _ | exact pm_shl_in _ _ | exact pm_cmp_in _ _ | exact pm_b8_in _ | (unfold pm_inI; split <;> omega)) (fun h1 => ?_) (fun h1 => ?_)
  · replace h1 : a < 0 := h1
    refine g_iconst lk_120_15 ?_
    refine g_ireturn lk_120_16 (fun h => absurd h (by decide)) ?_
    exact Or.inl ⟨by omega, rfl, rfl⟩
  · replace h1 : ¬ (a < 0) := h1
    refine g_iload_n lk_120_4 rfl ?_
    refine g_aload_n lk_120_5 rfl ?_
    refine g_getfield lk_120_6 rfl (lay.on (by decide) rfl) (v := ((2 : Nat) : Int)) (lay.rf rfl) ?_
    refine m_getfield (u := []) (M := M) lk_120_9 rfl (lay.on (by decide) rfl) (v := (n : Int)) hM.1 ?_
    refine g_icmp (t := 17) lk_120_12 rfl (by first | (unfold pm_inI; omega) | exact pm_and_in _ _ | exact pm_shr_in _ _ | exact pm_or_in _ _ | exact pm_xor_in _ _ | exact pm_shl_in _ _ | exact pm_cmp_in _ _ | exact pm_b8_in _ | (unfold pm_inI; split <;> omega)) (by first | (unfold pm_inI; omega) | exact pm_and_in _ _ | exact pm_shr_in _ _ | exact pm_or_in _ _ | exact pm_xor_in _ _ | exact pm_shl_in _ _ | exact pm_cmp_in _ _ | exact pm_b8_in _ | (unfold pm_inI; split <;> omega)) (fun h2 => ?_) (fun h2 => ?_)
    · replace h2 : a ≤ (n : Int) := h2
      refine g_aload_n lk_120_17 rfl ?_
      refine g_getfield lk_120_18 rfl (lay.on (by decide) rfl) (v := ((2 : Nat) : Int)) (lay.rf rfl) ?_
      refine g_iload_n lk_120_21 rfl ?_
      have lay3 : Lay (Mu [(2, pm_upd (pm_ct M 2) 4 a)] M) := lay.muF (l := []) (a := 2) (k := 4) (z := a) rfl rfl
      refine m_putfield (u := []) (u' := [(2, pm_upd (pm_ct M 2) 4 a)]) (M := M) lk_120_22 rfl (lay.on (by decide) rfl) (fun h => absurd h (by decide)) rfl ?_
      refine g_iload_n lk_120_25 rfl ?_
      refine g_ireturn lk_120_26 (fun h => absurd h (by decide)) ?_
      refine Or.inr ⟨by omega, rfl, lay3, ⟨?_, fun i hi => hM.2 i (by omega)⟩, rfl⟩
      show a = ((a.toNat : Nat) : Int)
      omega
    · replace h2 : ¬ (a ≤ (n : Int)) := h2
      refine g_iconst lk_120_15 ?_
      refine g_ireturn lk_120_16 (fun h => absurd h (by decide)) ?_
      exact Or.inl ⟨by omega, rfl, rfl⟩
theorem c_X_fault {D mc ms : Nat} {M : pm_M} (lay : Lay M) {f p : Int} (hf : pm_ct M 2 6 = f) (hp : pm_ct M 2 7 = p) {a : Int} (ha : pm_inI a) :
    pm_E D 122 [(2, ((1 : Nat) : Int)), (0, a)] M mc ms (fun ρ M' => ρ = some (0, if a = 0 then f else if a = 1 then p else -1) ∧ M' = M) := by
  show Wp D 122 0 [(2, ((1 : Nat) : Int)), (0, a)] [] M mc ms _
  refine g_iload_n lk_122_0 rfl ?_
  refine g_lsw lk_122_1 (by assumption) (And.intro (fun h1 => ?_) (fun h1 => (And.intro (fun h2 => ?_) (fun h2 => ?_))))
  · replace h1 : a = 0 := h1
    show Wp _ 122 28 [(2, ((1 : Nat) : Int)), (0, a)] [] M _ _ _
    refine g_aload_n lk_122_28 rfl ?_
    refine g_getfield lk_122_29 rfl (lay.on (by decide) rfl) (v := ((2 : Nat) : Int)) (lay.rf rfl) ?_
    refine m_getfield (u := []) (M := M) lk_122_32 rfl (lay.on (by decide) rfl) (v := f) hf ?_
    refine g_ireturn lk_122_35 (fun h => absurd h (by decide)) ?_
    exact ⟨by simp_all, rfl⟩
  · replace h2 : a = 1 := h2
    show Wp _ 122 36 [(2, ((1 : Nat) : Int)), (0, a)] [] M _ _ _
    refine g_aload_n lk_122_36 rfl ?_
    refine g_getfield lk_122_37 rfl (lay.on (by decide) rfl) (v := ((2 : Nat) : Int)) (lay.rf rfl) ?_
    refine m_getfield (u := []) (M := M) lk_122_40 rfl (lay.on (by decide) rfl) (v := p) hp ?_
    refine g_ireturn lk_122_43 (fun h => absurd h (by decide)) ?_
    exact ⟨by simp_all, rfl⟩
  · show Wp _ 122 44 [(2, ((1 : Nat) : Int)), (0, a)] [] M _ _ _
    replace h1 : ¬ a = 0 := h1
    replace h2 : ¬ a = 1 := h2
    refine g_iconst lk_122_44 ?_
    refine g_ireturn lk_122_45 (fun h => absurd h (by decide)) ?_
    exact ⟨by simp_all, rfl⟩
theorem c_Mo_fault {D mc ms : Nat} {M : pm_M} (lay : Lay M) {f p : Int} (hf : pm_ct M 116 29 = f) (hp : pm_ct M 116 30 = p) {a : Int} (ha : pm_inI a) :
    pm_E D 199 [(2, ((116 : Nat) : Int)), (0, a)] M mc ms (fun ρ M' => ρ = some (0, if a = 0 then f else if a = 1 then p else -1) ∧ Lay M' ∧ M' = Mu [(116, pm_upd (pm_ct M 116) 0 0)] M) := by
  show Wp D 199 0 [(2, ((116 : Nat) : Int)), (0, a)] [] M mc ms _
  refine g_aload_n lk_199_0 rfl ?_
  refine g_iconst lk_199_1 ?_
  have lay1 : Lay (Mu [(116, pm_upd (pm_ct M 116) 0 0)] M) := lay.muF (l := []) (a := 116) (k := 0) (z := 0) rfl rfl
  refine m_putfield (u := []) (u' := [(116, pm_upd (pm_ct M 116) 0 0)]) (M := M) lk_199_2 rfl (lay.on (by decide) rfl) (fun h => absurd h (by decide)) rfl ?_
  refine g_iload_n lk_199_5 rfl ?_
  refine g_if (t := 16) lk_199_6 rfl (by first | assumption | (unfold pm_inI; omega)) (fun h2 => ?_) (fun h2 => ?_)
  · replace h2 : ¬ a = 0 := h2
    refine g_iload_n lk_199_16 rfl ?_
    refine g_iconst lk_199_17 ?_
    refine g_icmp (t := 28) lk_199_18 rfl (by first | assumption | (unfold pm_inI; omega)) (by first | assumption | (unfold pm_inI; omega)) (fun h3 => ?_) (fun h3 => ?_)
    · replace h3 : ¬ a = 1 := h3
      refine g_iconst lk_199_28 ?_
      refine g_ireturn lk_199_29 (fun h => absurd h (by decide)) ?_
      exact ⟨by simp_all, lay1, rfl⟩
    · replace h3 : ¬ (¬ a = 1) := h3
      refine g_aload_n lk_199_21 rfl ?_
      refine m_getfield (u := [(116, pm_upd (pm_ct M 116) 0 0)]) (M := M) lk_199_22 rfl (lay1.on (by decide) rfl) (v := p) hp ?_
      refine g_goto (t := 29) lk_199_25 rfl ?_
      refine g_ireturn lk_199_29 (fun h => absurd h (by decide)) ?_
      exact ⟨by simp_all, lay1, rfl⟩
  · replace h2 : ¬ (¬ a = 0) := h2
    refine g_aload_n lk_199_9 rfl ?_
    refine m_getfield (u := [(116, pm_upd (pm_ct M 116) 0 0)]) (M := M) lk_199_10 rfl (lay1.on (by decide) rfl) (v := f) hf ?_
    refine g_goto (t := 29) lk_199_13 rfl ?_
    refine g_ireturn lk_199_29 (fun h => absurd h (by decide)) ?_
    exact ⟨by simp_all, lay1, rfl⟩
theorem c_Mo_end {D mc ms : Nat} {M : pm_M} (lay : Lay M) {n : Nat} {tp : Nat → Int} (hM : TpM M n tp) (hn : n ≤ 500) {a : Int} (ha : pm_inI a) :
    pm_E (D + 1) 179 [(2, ((116 : Nat) : Int)), (0, a)] M mc ms (fun ρ M' => (¬ (0 ≤ a ∧ a ≤ n) ∧ ρ = some (0, -1) ∧ Lay M' ∧ M' = Mu [(116, pm_upd (pm_ct M 116) 0 0)] M) ∨ ((0 ≤ a ∧ a ≤ n) ∧ ρ = some (0, a) ∧ Lay M' ∧ TpM M' a.toNat tp ∧ M' = Mu [(116, pm_upd (pm_upd (pm_ct M 116) 0 0) 23 a)] M)) := by
  have ha' := ha
  unfold pm_inI at ha'
  show Wp (D + 1) 179 0 [(2, ((116 : Nat) : Int)), (0, a)] [] M mc ms _
  refine g_aload_n lk_179_0 rfl ?_
  refine g_iconst lk_179_1 ?_
  have lay1 : Lay (Mu [(116, pm_upd (pm_ct M 116) 0 0)] M) := lay.muF (l := []) (a := 116) (k := 0) (z := 0) rfl rfl
  refine m_putfield (u := []) (u' := [(116, pm_upd (pm_ct M 116) 0 0)]) (M := M) lk_179_2 rfl (lay.on (by decide) rfl) (fun h => absurd h (by decide)) rfl ?_
  refine g_iload_n lk_179_5 rfl ?_
  refine g_iconst lk_179_6 ?_
  refine g_aload_n lk_179_7 rfl ?_
  refine m_getfield (u := [(116, pm_upd (pm_ct M 116) 0 0)]) (M := M) lk_179_8 rfl (lay1.on (by decide) rfl) (v := (n : Int)) hM.1 ?_
  refine g_static (Qc := _) lk_179_11 (by decide) rfl (Nat.le_of_ble_eq_true rfl) rfl rfl (Nat.le_of_ble_eq_true rfl) (Nat.le_of_ble_eq_true rfl) (Nat.zero_le _) (Nat.zero_le _) (c_Mo_in ha (by unfold pm_inI; omega) (by unfold pm_inI; omega)) ?_
  rintro _ N2 ⟨rfl, hN2⟩
  rw [hN2]
  show Wp _ 179 14 [(2, ((116 : Nat) : Int)), (0, a)] [(0, (if 0 ≤ a ∧ a ≤ (n : Int) then (1 : Int) else 0))] (Mu [(116, pm_upd (pm_ct M 116) 0 0)] M) _ _ _
  refine g_if (t := 19) lk_179_14 rfl (by first | (unfold pm_inI; omega) | exact pm_and_in _ _ | exact pm_shr_in _ _ | exact pm_or_in _ _ | exact pm_xor_in _ _ | exact pm_shl_in _ _ | exact pm_cmp_in _ _ | exact pm_b8_in _ | (unfold pm_inI; split <;> omega)) (fun h3 => ?_) (fun h3 => ?_)
  · replace h3 : ¬ (if 0 ≤ a ∧ a ≤ (n : Int) then (1 : Int) else 0) = 0 := h3
    refine g_aload_n lk_179_19 rfl ?_
    refine g_iload_n lk_179_20 rfl ?_
    have lay4 : Lay (Mu [(116, pm_upd (pm_upd (pm_ct M 116) 0 0) 23 a)] M) := lay1.muF (l := [(116, pm_upd (pm_ct M 116) 0 0)]) (a := 116) (k := 23) (z := a) rfl rfl
    refine m_putfield (u := [(116, pm_upd (pm_ct M 116) 0 0)]) (u' := [(116, pm_upd (pm_upd (pm_ct M 116) 0 0) 23 a)]) (M := M) lk_179_21 rfl (lay1.on (by decide) rfl) (fun h => absurd h (by decide)) rfl ?_
    refine g_iload_n lk_179_24 rfl ?_
    refine g_ireturn lk_179_25 (fun h => absurd h (by decide)) ?_
    refine Or.inr ⟨by split at h3 <;> simp_all, rfl, lay4, ⟨?_, fun i hi => hM.2 i (by split at h3 <;> omega)⟩, rfl⟩
    show a = ((a.toNat : Nat) : Int)
    split at h3 <;> omega
  · replace h3 : ¬ (¬ (if 0 ≤ a ∧ a ≤ (n : Int) then (1 : Int) else 0) = 0) := h3
    refine g_iconst lk_179_17 ?_
    refine g_ireturn lk_179_18 (fun h => absurd h (by decide)) ?_
    refine Or.inl ⟨by split at h3 <;> simp_all, rfl, lay1, rfl⟩
