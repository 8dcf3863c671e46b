/-! ===== Fools: the class ===== -/
def CeAt (M : pm_M) (l : List Nat) : Prop := pm_ct M 34 5 = (l.length : Int) ∧ ∀ (k x : Nat), l[k]? = some x → pm_ct M 35 k = (x : Int)
def ptm (T : Tab) (v : Nat) (l : List Nat) (i : Nat) : Nat → Nat
  | 0 => 0
  | n + 1 => if i < n ∧ fo T v (l.getD i 0) (l.getD n 0) = true then ptm T v l i n ||| 2 ^ n else ptm T v l i n
theorem ptm_s (T : Tab) (v : Nat) (l : List Nat) (i n : Nat) : ptm T v l i (n + 1) = if i < n ∧ fo T v (l.getD i 0) (l.getD n 0) = true then ptm T v l i n ||| 2 ^ n else ptm T v l i n := rfl
theorem ptm_0 (T : Tab) (v : Nat) (l : List Nat) (i : Nat) : ∀ n, n ≤ i + 1 → ptm T v l i n = 0
  | 0, _ => rfl
  | n + 1, h => by rw [ptm_s, if_neg (by omega), ptm_0 T v l i n (by omega)]
theorem ptm_lt (T : Tab) (v : Nat) (l : List Nat) (i : Nat) : ∀ n, ptm T v l i n < 2 ^ n
  | 0 => (by decide : 0 < 1)
  | n + 1 => by
    have h := ptm_lt T v l i n
    have h2 : 2 ^ n < 2 ^ (n + 1) := Nat.pow_lt_pow_right (by omega) (by omega)
    rw [ptm_s]
    split
    · exact Nat.or_lt_two_pow (Nat.lt_trans h h2) h2
    · exact Nat.lt_trans h h2
theorem ptm_bit (T : Tab) (v : Nat) (l : List Nat) (i : Nat) : ∀ n j, (ptm T v l i n).testBit j = (decide (j < n) && (decide (i < j) && fo T v (l.getD i 0) (l.getD j 0)))
  | 0, j => by show (0 : Nat).testBit j = _; simp
  | n + 1, j => by
    rw [ptm_s]
    by_cases h : i < n ∧ fo T v (l.getD i 0) (l.getD n 0) = true
    · rw [if_pos h, Nat.testBit_or, ptm_bit T v l i n j, Nat.testBit_two_pow]
      by_cases hc : n = j
      · subst hc; rw [h.2]; simp [h.1]
      · by_cases h2 : j < n
        · simp [h2, show j < n + 1 by omega, hc]
        · simp [h2, show ¬ j < n + 1 by omega, hc]
    · rw [if_neg h, ptm_bit T v l i n j]
      by_cases hc : n = j
      · subst hc
        rw [show (decide (n < n)) = false by simp, Bool.false_and]
        by_cases h3 : i < n
        · have : fo T v (l.getD i 0) (l.getD n 0) = false := by
            cases hf : fo T v (l.getD i 0) (l.getD n 0) with
            | false => rfl
            | true => exact absurd ⟨h3, hf⟩ h
          rw [this]; simp
        · simp [h3]
      · by_cases h2 : j < n
        · simp [h2, show j < n + 1 by omega]
        · simp [h2, show ¬ j < n + 1 by omega]
theorem p36 {n : Nat} (h : n ≤ 36) : 2 ^ n ≤ 68719476736 := (Nat.pow_le_pow_right (by omega) h : 2 ^ n ≤ 2 ^ 36)
def FoAt (M : pm_M) (T : Tab) (v : Nat) : Prop := CeAt M (fc T v) ∧ ∀ k, k < (fc T v).length → pm_ct M 36 k = ((ptm T v (fc T v) k (fc T v).length : Nat) : Int)
theorem c_Fools_isFooling {d mc ms : Nat} {M : pm_M} (lay : Lay M) {T : Tab} (hT : TabOK T) (hM : TbAt M 24 T) {a b v : Nat} (ha : a < 36) (hb : b < 36) (hv : v < 11) :
    pm_E (d + 1) 20 [(2, ((34 : Nat) : Int)), (0, (a : Int)), (0, (b : Int)), (0, (v : Int))] M mc ms (fun ρ M' => ρ = some (0, if fo T v a b then 1 else 0) ∧ M' = M) := by
  have ht : (24 : Nat) = 4 ∨ (24 : Nat) = 24 := Or.inr rfl
  have x1 := hT.2.2.1 (6 * (a / 6) + b % 6)
  have x2 := hT.2.2.1 (6 * (b / 6) + a % 6)
  obtain ⟨a1, h_a1⟩ : ∃ a1, a1 = a / 6 := ⟨_, rfl⟩
  obtain ⟨a2, h_a2⟩ : ∃ a2, a2 = a % 6 := ⟨_, rfl⟩
  obtain ⟨b1, h_b1⟩ : ∃ b1, b1 = b / 6 := ⟨_, rfl⟩
  obtain ⟨b2, h_b2⟩ : ∃ b2, b2 = b % 6 := ⟨_, rfl⟩
  have e1 : (a : Int).tdiv 6 = (a1 : Int) := by rw [h_a1]; rfl
  have e2 : (a : Int).tmod 6 = (a2 : Int) := by rw [h_a2]; rfl
  have e3 : (b : Int).tdiv 6 = (b1 : Int) := by rw [h_b1]; rfl
  have e4 : (b : Int).tmod 6 = (b2 : Int) := by rw [h_b2]; rfl
  have ef : fo T v a b = (ot T v (6 * a1 + b2) || ot T v (6 * b1 + a2)) := by unfold fo; rw [← h_a1, ← h_a2, ← h_b1, ← h_b2]
  rw [← h_a1, ← h_b2] at x1
  rw [← h_b1, ← h_a2] at x2
  show Wp (d + 1) 20 0 [(2, ((34 : Nat) : Int)), (0, (a : Int)), (0, (b : Int)), (0, (v : Int)), (9, 0), (9, 0)] [] M mc ms _
  refine g_aload_n lk_20_0 rfl ?_
  refine g_getfield lk_20_1 rfl (lay.on (by decide) rfl) (v := ((24 : Nat) : Int)) (lay.rf rfl) ?_
  refine g_iload_n lk_20_4 rfl ?_
  refine g_bipush lk_20_5 ?_
  refine g_idiv lk_20_7 (by unfold pm_inI; omega) (by unfold pm_inI; omega) (by omega) ?_
  refine g_top (z := ((a : Int).tdiv 6)) (z' := (a1 : Int)) (e1) ?_
  refine g_iload_n lk_20_8 rfl ?_
  refine g_bipush lk_20_9 ?_
  refine g_irem lk_20_11 (by unfold pm_inI; omega) (by unfold pm_inI; omega) (by omega) ?_
  refine g_top (z := ((b : Int).tmod 6)) (z' := (b2 : Int)) (e4) ?_
  refine g_virtual (p := 24) (Qc := _) lk_20_12 rfl (Nat.le_of_ble_eq_true rfl) rfl rfl (lay.on (by decide) rfl) (Nat.le_of_ble_eq_true rfl) (Nat.le_of_ble_eq_true rfl) (Nat.zero_le _) (Nat.zero_le _) (c_Table_at lay ht hM (by omega) (by omega)) ?_
  rintro _ N1 ⟨rfl, hN1⟩
  rw [hN1]
  show Wp _ 20 15 [(2, ((34 : Nat) : Int)), (0, (a : Int)), (0, (b : Int)), (0, (v : Int)), (9, 0), (9, 0)] [(0, (tX T (6 * a1 + b2) : Int))] M _ _ _
  refine g_istore (ls' := [(2, ((34 : Nat) : Int)), (0, (a : Int)), (0, (b : Int)), (0, (v : Int)), (0, (tX T (6 * a1 + b2) : Int)), (9, 0)]) lk_20_15 rfl rfl ?_
  refine g_aload_n lk_20_17 rfl ?_
  refine g_getfield lk_20_18 rfl (lay.on (by decide) rfl) (v := ((24 : Nat) : Int)) (lay.rf rfl) ?_
  refine g_iload_n lk_20_21 rfl ?_
  refine g_bipush lk_20_22 ?_
  refine g_idiv lk_20_24 (by unfold pm_inI; omega) (by unfold pm_inI; omega) (by omega) ?_
  refine g_top (z := ((b : Int).tdiv 6)) (z' := (b1 : Int)) (e3) ?_
  refine g_iload_n lk_20_25 rfl ?_
  refine g_bipush lk_20_26 ?_
  refine g_irem lk_20_28 (by unfold pm_inI; omega) (by unfold pm_inI; omega) (by omega) ?_
  refine g_top (z := ((a : Int).tmod 6)) (z' := (a2 : Int)) (e2) ?_
  refine g_virtual (p := 24) (Qc := _) lk_20_29 rfl (Nat.le_of_ble_eq_true rfl) rfl rfl (lay.on (by decide) rfl) (Nat.le_of_ble_eq_true rfl) (Nat.le_of_ble_eq_true rfl) (Nat.zero_le _) (Nat.zero_le _) (c_Table_at lay ht hM (by omega) (by omega)) ?_
  rintro _ N2 ⟨rfl, hN2⟩
  rw [hN2]
  show Wp _ 20 32 [(2, ((34 : Nat) : Int)), (0, (a : Int)), (0, (b : Int)), (0, (v : Int)), (0, (tX T (6 * a1 + b2) : Int)), (9, 0)] [(0, (tX T (6 * b1 + a2) : Int))] M _ _ _
  refine g_istore (ls' := [(2, ((34 : Nat) : Int)), (0, (a : Int)), (0, (b : Int)), (0, (v : Int)), (0, (tX T (6 * a1 + b2) : Int)), (0, (tX T (6 * b1 + a2) : Int))]) lk_20_32 rfl rfl ?_
  refine g_iload lk_20_34 rfl ?_
  refine g_iload_n lk_20_36 rfl ?_
  refine g_icmp (t := 47) lk_20_37 rfl (by first | (unfold pm_inI; omega) | exact pm_and_in _ _ | exact pm_shr_in _ _ | exact pm_or_in _ _ | exact pm_xor_in _ _ | exact pm_shl_in _ _ | exact pm_cmp_in _ _ | exact pm_b8_in _ | (unfold pm_inI; split <;> omega)) (by first | (unfold pm_inI; omega) | exact pm_and_in _ _ | exact pm_shr_in _ _ | exact pm_or_in _ _ | exact pm_xor_in _ _ | exact pm_shl_in _ _ | exact pm_cmp_in _ _ | exact pm_b8_in _ | (unfold pm_inI; split <;> omega)) (fun h3 => ?_) (fun h3 => ?_)
  · replace h3 : (tX T (6 * a1 + b2) : Int) = (v : Int) := h3
    refine g_iload lk_20_47 rfl ?_
    refine g_iload_n lk_20_49 rfl ?_
    refine g_icmp (t := 64) lk_20_50 rfl (by first | (unfold pm_inI; omega) | exact pm_and_in _ _ | exact pm_shr_in _ _ | exact pm_or_in _ _ | exact pm_xor_in _ _ | exact pm_shl_in _ _ | exact pm_cmp_in _ _ | exact pm_b8_in _ | (unfold pm_inI; split <;> omega)) (by first | (unfold pm_inI; omega) | exact pm_and_in _ _ | exact pm_shr_in _ _ | exact pm_or_in _ _ | exact pm_xor_in _ _ | exact pm_shl_in _ _ | exact pm_cmp_in _ _ | exact pm_b8_in _ | (unfold pm_inI; split <;> omega)) (fun h4 => ?_) (fun h4 => ?_)
    · replace h4 : (tX T (6 * b1 + a2) : Int) = (v : Int) := h4
      refine g_iconst lk_20_64 ?_
      refine g_ireturn lk_20_65 (fun _ => by omega) ?_
      refine ⟨?_, rfl⟩
      rw [ef]
      unfold ot
      congr 2
      symm
      first | (rw [if_pos]; simp; omega) | (rw [if_neg]; simp; omega)
    · replace h4 : ¬ ((tX T (6 * b1 + a2) : Int) = (v : Int)) := h4
      refine g_iload lk_20_53 rfl ?_
      refine g_bipush lk_20_55 ?_
      refine g_icmp (t := 64) lk_20_57 rfl (by first | (unfold pm_inI; omega) | exact pm_and_in _ _ | exact pm_shr_in _ _ | exact pm_or_in _ _ | exact pm_xor_in _ _ | exact pm_shl_in _ _ | exact pm_cmp_in _ _ | exact pm_b8_in _ | (unfold pm_inI; split <;> omega)) (by first | (unfold pm_inI; omega) | exact pm_and_in _ _ | exact pm_shr_in _ _ | exact pm_or_in _ _ | exact pm_xor_in _ _ | exact pm_shl_in _ _ | exact pm_cmp_in _ _ | exact pm_b8_in _ | (unfold pm_inI; split <;> omega)) (fun h5 => ?_) (fun h5 => ?_)
      · replace h5 : (tX T (6 * b1 + a2) : Int) = 10 := h5
        refine g_iconst lk_20_64 ?_
        refine g_ireturn lk_20_65 (fun _ => by omega) ?_
        refine ⟨?_, rfl⟩
        rw [ef]
        unfold ot
        congr 2
        symm
        first | (rw [if_pos]; simp; omega) | (rw [if_neg]; simp; omega)
      · replace h5 : ¬ ((tX T (6 * b1 + a2) : Int) = 10) := h5
        refine g_iconst lk_20_60 ?_
        refine g_goto (t := 65) lk_20_61 rfl ?_
        refine g_ireturn lk_20_65 (fun _ => by omega) ?_
        refine ⟨?_, rfl⟩
        rw [ef]
        unfold ot
        congr 2
        symm
        first | (rw [if_pos]; simp; omega) | (rw [if_neg]; simp; omega)
  · replace h3 : ¬ ((tX T (6 * a1 + b2) : Int) = (v : Int)) := h3
    refine g_iload lk_20_40 rfl ?_
    refine g_bipush lk_20_42 ?_
    refine g_icmp (t := 60) lk_20_44 rfl (by first | (unfold pm_inI; omega) | exact pm_and_in _ _ | exact pm_shr_in _ _ | exact pm_or_in _ _ | exact pm_xor_in _ _ | exact pm_shl_in _ _ | exact pm_cmp_in _ _ | exact pm_b8_in _ | (unfold pm_inI; split <;> omega)) (by first | (unfold pm_inI; omega) | exact pm_and_in _ _ | exact pm_shr_in _ _ | exact pm_or_in _ _ | exact pm_xor_in _ _ | exact pm_shl_in _ _ | exact pm_cmp_in _ _ | exact pm_b8_in _ | (unfold pm_inI; split <;> omega)) (fun h6 => ?_) (fun h6 => ?_)
    · replace h6 : ¬ (tX T (6 * a1 + b2) : Int) = 10 := h6
      refine g_iconst lk_20_60 ?_
      refine g_goto (t := 65) lk_20_61 rfl ?_
      refine g_ireturn lk_20_65 (fun _ => by omega) ?_
      refine ⟨?_, rfl⟩
      rw [ef]
      unfold ot
      congr 2
      symm
      first | (rw [if_pos]; simp; omega) | (rw [if_neg]; simp; omega)
    · replace h6 : ¬ (¬ (tX T (6 * a1 + b2) : Int) = 10) := h6
      refine g_iload lk_20_47 rfl ?_
      refine g_iload_n lk_20_49 rfl ?_
      refine g_icmp (t := 64) lk_20_50 rfl (by first | (unfold pm_inI; omega) | exact pm_and_in _ _ | exact pm_shr_in _ _ | exact pm_or_in _ _ | exact pm_xor_in _ _ | exact pm_shl_in _ _ | exact pm_cmp_in _ _ | exact pm_b8_in _ | (unfold pm_inI; split <;> omega)) (by first | (unfold pm_inI; omega) | exact pm_and_in _ _ | exact pm_shr_in _ _ | exact pm_or_in _ _ | exact pm_xor_in _ _ | exact pm_shl_in _ _ | exact pm_cmp_in _ _ | exact pm_b8_in _ | (unfold pm_inI; split <;> omega)) (fun h7 => ?_) (fun h7 => ?_)
      · replace h7 : (tX T (6 * b1 + a2) : Int) = (v : Int) := h7
        refine g_iconst lk_20_64 ?_
        refine g_ireturn lk_20_65 (fun _ => by omega) ?_
        refine ⟨?_, rfl⟩
        rw [ef]
        unfold ot
        congr 2
        symm
        first | (rw [if_pos]; simp; omega) | (rw [if_neg]; simp; omega)
      · replace h7 : ¬ ((tX T (6 * b1 + a2) : Int) = (v : Int)) := h7
        refine g_iload lk_20_53 rfl ?_
        refine g_bipush lk_20_55 ?_
        refine g_icmp (t := 64) lk_20_57 rfl (by first | (unfold pm_inI; omega) | exact pm_and_in _ _ | exact pm_shr_in _ _ | exact pm_or_in _ _ | exact pm_xor_in _ _ | exact pm_shl_in _ _ | exact pm_cmp_in _ _ | exact pm_b8_in _ | (unfold pm_inI; split <;> omega)) (by first | (unfold pm_inI; omega) | exact pm_and_in _ _ | exact pm_shr_in _ _ | exact pm_or_in _ _ | exact pm_xor_in _ _ | exact pm_shl_in _ _ | exact pm_cmp_in _ _ | exact pm_b8_in _ | (unfold pm_inI; split <;> omega)) (fun h8 => ?_) (fun h8 => ?_)
        · replace h8 : (tX T (6 * b1 + a2) : Int) = 10 := h8
          refine g_iconst lk_20_64 ?_
          refine g_ireturn lk_20_65 (fun _ => by omega) ?_
          refine ⟨?_, rfl⟩
          rw [ef]
          unfold ot
          congr 2
          symm
          first | (rw [if_pos]; simp; omega) | (rw [if_neg]; simp; omega)
        · replace h8 : ¬ ((tX T (6 * b1 + a2) : Int) = 10) := h8
          refine g_iconst lk_20_60 ?_
          refine g_goto (t := 65) lk_20_61 rfl ?_
          refine g_ireturn lk_20_65 (fun _ => by omega) ?_
          refine ⟨?_, rfl⟩
          rw [ef]
          unfold ot
          congr 2
          symm
          first | (rw [if_pos]; simp; omega) | (rw [if_neg]; simp; omega)
set_option maxHeartbeats 4000000 in
theorem c_Fools_take {d mc ms : Nat} {M : pm_M} (lay0 : Lay M) {T : Tab} (hT : TabOK T) (hM0 : TbAt M 24 T) {v : Nat} (hv : v < 10) :
    pm_E (d + 2) 19 [(2, ((34 : Nat) : Int)), (0, (v : Int))] M mc ms (fun ρ M' => ρ = none ∧ Lay M' ∧ Fr [34, 35, 36] M M' ∧ FoAt M' T v) := by
  obtain ⟨Q, hQ⟩ : ∃ Q : pm_Q, Q = (fun ρ M' => ρ = none ∧ Lay M' ∧ Fr [34, 35, 36] M M' ∧ FoAt M' T v) := ⟨_, rfl⟩
  rw [← hQ]
  have ht : (24 : Nat) = 4 ∨ (24 : Nat) = 24 := Or.inr rfl
  have hR := hT.1
  have hC := hT.2.1
  obtain ⟨L, hL⟩ : ∃ L, L = fc T v := ⟨_, rfl⟩
  have L36 : L.length ≤ 36 := by rw [hL]; exact fc_len hT v
  have Lx : ∀ k x, L[k]? = some x → x < 36 := fun k x h => by
    have : x ∈ fa T v (tR T) := by
      have := List.mem_of_getElem? h
      rw [hL] at this
      exact this
    have := (fa_mem hT v x (tR T)).mp this
    omega
  have lj : ∀ (n i j : Nat) (N : pm_M), j + n = L.length → i < j → Lay N → Fr [34, 35, 36] M N → TbAt N 24 T → CeAt N L → (∀ k, k < i → pm_ct N 36 k = ((ptm T v L k L.length : Nat) : Int)) → pm_ct N 36 i = ((ptm T v L i j : Nat) : Int) →
      (∀ N' : pm_M, Lay N' → Fr [34, 35, 36] M N' → TbAt N' 24 T → CeAt N' L → (∀ k, k < i + 1 → pm_ct N' 36 k = ((ptm T v L k L.length : Nat) : Int)) → ∀ v3 : pm_V, Wp (d + 2) 19 83 [(2, ((34 : Nat) : Int)), (0, (v : Int)), (0, ((i + 1 : Nat) : Int)), v3] [] N' mc ms Q) →
      Wp (d + 2) 19 102 [(2, ((34 : Nat) : Int)), (0, (v : Int)), (0, (i : Int)), (0, (j : Int))] [] N mc ms Q := by
    intro n
    induction n with
    | zero =>
      intro i j N hj hij lay hF hM hc hk hp k
      have c5 := hc.1
      refine g_iload_n lk_19_102 rfl ?_
      refine g_aload_n lk_19_103 rfl ?_
      refine m_getfield (u := []) (M := N) lk_19_104 rfl (lay.on (by decide) rfl) (v := (L.length : Int)) c5 ?_
      refine g_icmp (t := 152) lk_19_107 rfl (by first | (unfold pm_inI; omega) | exact pm_and_in _ _ | exact pm_shr_in _ _ | exact pm_or_in _ _ | exact pm_xor_in _ _ | exact pm_shl_in _ _ | exact pm_cmp_in _ _ | exact pm_b8_in _ | (unfold pm_inI; split <;> omega)) (by first | (unfold pm_inI; omega) | exact pm_and_in _ _ | exact pm_shr_in _ _ | exact pm_or_in _ _ | exact pm_xor_in _ _ | exact pm_shl_in _ _ | exact pm_cmp_in _ _ | exact pm_b8_in _ | (unfold pm_inI; split <;> omega)) (fun h1 => ?_) (fun h1 => ?_)
      · replace h1 : (L.length : Int) ≤ (j : Int) := h1
        refine g_iinc (ls' := [(2, ((34 : Nat) : Int)), (0, (v : Int)), (0, ((i : Int) + 1)), (0, (j : Int))]) lk_19_152 rfl rfl rfl ?_
        refine g_goto (t := 83) lk_19_155 rfl ?_
        refine k N lay hF hM hc (fun q hq => ?_) _
        by_cases e : q = i
        · subst e; rw [hp, show j = L.length by omega]
        · exact hk q (by omega)
      · replace h1 : ¬ ((L.length : Int) ≤ (j : Int)) := h1
        omega
    | succ n ih =>
      intro i j N hj hij lay hF hM hc hk hp k
      have c5 := hc.1
      obtain ⟨xi, hxi⟩ : ∃ x, L[i]? = some x := ⟨_, List.getElem?_eq_getElem (by omega)⟩
      obtain ⟨xj, hxj⟩ : ∃ x, L[j]? = some x := ⟨_, List.getElem?_eq_getElem (by omega)⟩
      have gi : L.getD i 0 = xi := by rw [List.getD_eq_getElem?_getD, hxi]; rfl
      have gj : L.getD j 0 = xj := by rw [List.getD_eq_getElem?_getD, hxj]; rfl
      have vi := hc.2 i xi hxi
      have vj := hc.2 j xj hxj
      have bi := Lx i xi hxi
      have bj := Lx j xj hxj
      have e := ptm_s T v L i j
      rw [gi, gj] at e
      have a1 : ptm T v L i j < 9223372036854775808 := Nat.lt_of_lt_of_le (ptm_lt T v L i j) (Nat.le_trans (p36 (by omega)) (by omega))
      have a2 : 1 * 2 ^ j < 9223372036854775808 := by have := p36 (n := j) (by omega); omega
      have a3 : pm_shlL 1 (j : Int) = ((2 ^ j : Nat) : Int) := by have := pm_shlL_n (a := 1) (k := j) (by omega) a2; rw [Nat.one_mul] at this; exact this
      have a4 : pm_orL ((ptm T v L i j : Nat) : Int) 0 = ((ptm T v L i j : Nat) : Int) := by have := pm_orL_n (b := 0) a1 (by omega); rw [Nat.or_zero] at this; exact this
      refine g_iload_n lk_19_102 rfl ?_
      refine g_aload_n lk_19_103 rfl ?_
      refine m_getfield (u := []) (M := N) lk_19_104 rfl (lay.on (by decide) rfl) (v := (L.length : Int)) c5 ?_
      refine g_icmp (t := 152) lk_19_107 rfl (by first | (unfold pm_inI; omega) | exact pm_and_in _ _ | exact pm_shr_in _ _ | exact pm_or_in _ _ | exact pm_xor_in _ _ | exact pm_shl_in _ _ | exact pm_cmp_in _ _ | exact pm_b8_in _ | (unfold pm_inI; split <;> omega)) (by first | (unfold pm_inI; omega) | exact pm_and_in _ _ | exact pm_shr_in _ _ | exact pm_or_in _ _ | exact pm_xor_in _ _ | exact pm_shl_in _ _ | exact pm_cmp_in _ _ | exact pm_b8_in _ | (unfold pm_inI; split <;> omega)) (fun h1 => ?_) (fun h1 => ?_)
      · replace h1 : (L.length : Int) ≤ (j : Int) := h1
        refine g_iinc (ls' := [(2, ((34 : Nat) : Int)), (0, (v : Int)), (0, ((i : Int) + 1)), (0, (j : Int))]) lk_19_152 rfl rfl rfl ?_
        refine g_goto (t := 83) lk_19_155 rfl ?_
        omega
      · replace h1 : ¬ ((L.length : Int) ≤ (j : Int)) := h1
        refine g_aload_n lk_19_110 rfl ?_
        refine g_getfield lk_19_111 rfl (lay.on (by decide) rfl) (v := ((36 : Nat) : Int)) (lay.rf rfl) ?_
        refine g_iload_n lk_19_114 rfl ?_
        refine g_dup2 lk_19_115 rfl rfl ?_
        refine m_laload (u := []) (M := N) lk_19_116 (lay.ay (by decide) rfl) (by omega) (j := i) (by omega) (v := ((ptm T v L i j : Nat) : Int)) hp ?_
        refine g_aload_n lk_19_117 rfl ?_
        refine g_aload_n lk_19_118 rfl ?_
        refine g_getfield lk_19_119 rfl (lay.on (by decide) rfl) (v := ((35 : Nat) : Int)) (lay.rf rfl) ?_
        refine g_iload_n lk_19_122 rfl ?_
        refine m_iaload (u := []) (M := N) lk_19_123 (lay.ay (by decide) rfl) (by omega) (j := i) (by omega) (v := (xi : Int)) vi ?_
        refine g_aload_n lk_19_124 rfl ?_
        refine g_getfield lk_19_125 rfl (lay.on (by decide) rfl) (v := ((35 : Nat) : Int)) (lay.rf rfl) ?_
        refine g_iload_n lk_19_128 rfl ?_
        refine m_iaload (u := []) (M := N) lk_19_129 (lay.ay (by decide) rfl) (by omega) (j := j) (by omega) (v := (xj : Int)) vj ?_
        refine g_iload_n lk_19_130 rfl ?_
        refine g_virtual (p := 34) (Qc := _) lk_19_131 rfl (Nat.le_of_ble_eq_true rfl) rfl rfl (lay.on (by decide) rfl) (Nat.le_of_ble_eq_true rfl) (Nat.le_of_ble_eq_true rfl) (Nat.zero_le _) (Nat.zero_le _) (c_Fools_isFooling lay hT hM (by omega) (by omega) (by omega)) ?_
        rintro _ N2 ⟨rfl, hN2⟩
        rw [hN2]
        show Wp _ 19 134 [(2, ((34 : Nat) : Int)), (0, (v : Int)), (0, (i : Int)), (0, (j : Int))] [(0, (if fo T v xi xj then (1 : Int) else 0)), (1, ((ptm T v L i j : Nat) : Int)), (0, (i : Int)), (2, ((36 : Nat) : Int))] N _ _ _
        refine g_if (t := 143) lk_19_134 rfl (by first | (unfold pm_inI; omega) | exact pm_and_in _ _ | exact pm_shr_in _ _ | exact pm_or_in _ _ | exact pm_xor_in _ _ | exact pm_shl_in _ _ | exact pm_cmp_in _ _ | exact pm_b8_in _ | (unfold pm_inI; split <;> omega)) (fun h3 => ?_) (fun h3 => ?_)
        · replace h3 : (if fo T v xi xj then (1 : Int) else 0) = 0 := h3
          refine g_lconst lk_19_143 ?_
          refine g_lor lk_19_144 ?_
          have lay4 : Lay (Mu [(36, pm_upd (pm_ct N 36) i (pm_orL ((ptm T v L i j : Nat) : Int) 0))] N) := lay.muA (l := []) (a := 36) (f := pm_upd (pm_ct N 36) i (pm_orL ((ptm T v L i j : Nat) : Int) 0)) rfl rfl
          refine m_lastore (u := []) (u' := [(36, pm_upd (pm_ct N 36) i (pm_orL ((ptm T v L i j : Nat) : Int) 0))]) (M := N) lk_19_145 (lay.ay (by decide) rfl) (by omega) (j := i) (by omega) rfl ?_
          refine g_iinc (ls' := [(2, ((34 : Nat) : Int)), (0, (v : Int)), (0, (i : Int)), (0, ((j : Int) + 1))]) lk_19_146 rfl rfl rfl ?_
          refine g_goto (t := 102) lk_19_149 rfl ?_
          refine ih i (j + 1) _ (by omega) (by omega) lay4 (hF.trans (Fr.mu _ _ rfl)) hM ⟨by rw [Mu_ct]; exact c5, fun k x h => by rw [Mu_ct]; exact hc.2 k x h⟩ (fun q hq => ?_) ?_ k
          · rw [Mu_ct]
            show pm_upd (pm_ct N 36) i _ q = _
            rw [pm_upd_ne (by omega)]; exact hk q hq
          · rw [Mu_ct]
            show pm_upd (pm_ct N 36) i _ i = _
            rw [pm_upd_eq, e, if_neg (fun q => by rw [if_pos q.2] at h3; omega), a4]
        · replace h3 : ¬ ((if fo T v xi xj then (1 : Int) else 0) = 0) := h3
          refine g_lconst lk_19_137 ?_
          refine g_iload_n lk_19_138 rfl ?_
          refine g_lshl lk_19_139 ?_
          refine g_goto (t := 144) lk_19_140 rfl ?_
          refine g_lor lk_19_144 ?_
          have lay5 : Lay (Mu [(36, pm_upd (pm_ct N 36) i (pm_orL ((ptm T v L i j : Nat) : Int) (pm_shlL 1 (j : Int))))] N) := lay.muA (l := []) (a := 36) (f := pm_upd (pm_ct N 36) i (pm_orL ((ptm T v L i j : Nat) : Int) (pm_shlL 1 (j : Int)))) rfl rfl
          refine m_lastore (u := []) (u' := [(36, pm_upd (pm_ct N 36) i (pm_orL ((ptm T v L i j : Nat) : Int) (pm_shlL 1 (j : Int))))]) (M := N) lk_19_145 (lay.ay (by decide) rfl) (by omega) (j := i) (by omega) rfl ?_
          refine g_iinc (ls' := [(2, ((34 : Nat) : Int)), (0, (v : Int)), (0, (i : Int)), (0, ((j : Int) + 1))]) lk_19_146 rfl rfl rfl ?_
          refine g_goto (t := 102) lk_19_149 rfl ?_
          refine ih i (j + 1) _ (by omega) (by omega) lay5 (hF.trans (Fr.mu _ _ rfl)) hM ⟨by rw [Mu_ct]; exact c5, fun k x h => by rw [Mu_ct]; exact hc.2 k x h⟩ (fun q hq => ?_) ?_ k
          · rw [Mu_ct]
            show pm_upd (pm_ct N 36) i _ q = _
            rw [pm_upd_ne (by omega)]; exact hk q hq
          · rw [Mu_ct]
            show pm_upd (pm_ct N 36) i _ i = _
            have hf : fo T v xi xj = true := by
              cases hf : fo T v xi xj with
              | true => rfl
              | false => rw [hf] at h3; exact absurd rfl h3
            rw [pm_upd_eq, e, if_pos ⟨hij, hf⟩, a3, pm_orL_n a1 (by omega)]
  have li : ∀ (n i : Nat) (v3 : pm_V) (N : pm_M), i + n = L.length → Lay N → Fr [34, 35, 36] M N → TbAt N 24 T → CeAt N L → (∀ k, k < i → pm_ct N 36 k = ((ptm T v L k L.length : Nat) : Int)) → Wp (d + 2) 19 83 [(2, ((34 : Nat) : Int)), (0, (v : Int)), (0, (i : Int)), v3] [] N mc ms Q := by
    intro n
    induction n with
    | zero =>
      intro i v3 N hi lay hF hM hc hk
      have c5 := hc.1
      refine g_iload_n lk_19_83 rfl ?_
      refine g_aload_n lk_19_84 rfl ?_
      refine m_getfield (u := []) (M := N) lk_19_85 rfl (lay.on (by decide) rfl) (v := (L.length : Int)) c5 ?_
      refine g_icmp (t := 158) lk_19_88 rfl (by first | (unfold pm_inI; omega) | exact pm_and_in _ _ | exact pm_shr_in _ _ | exact pm_or_in _ _ | exact pm_xor_in _ _ | exact pm_shl_in _ _ | exact pm_cmp_in _ _ | exact pm_b8_in _ | (unfold pm_inI; split <;> omega)) (by first | (unfold pm_inI; omega) | exact pm_and_in _ _ | exact pm_shr_in _ _ | exact pm_or_in _ _ | exact pm_xor_in _ _ | exact pm_shl_in _ _ | exact pm_cmp_in _ _ | exact pm_b8_in _ | (unfold pm_inI; split <;> omega)) (fun h1 => ?_) (fun h1 => ?_)
      · replace h1 : (L.length : Int) ≤ (i : Int) := h1
        refine g_return lk_19_158 ?_
        rw [hQ]
        refine ⟨rfl, lay, hF, ?_⟩
        unfold FoAt
        rw [← hL]
        exact ⟨hc, fun k hk' => hk k (by omega)⟩
      · replace h1 : ¬ ((L.length : Int) ≤ (i : Int)) := h1
        omega
    | succ n ih =>
      intro i v3 N hi lay hF hM hc hk
      have c5 := hc.1
      refine g_iload_n lk_19_83 rfl ?_
      refine g_aload_n lk_19_84 rfl ?_
      refine m_getfield (u := []) (M := N) lk_19_85 rfl (lay.on (by decide) rfl) (v := (L.length : Int)) c5 ?_
      refine g_icmp (t := 158) lk_19_88 rfl (by first | (unfold pm_inI; omega) | exact pm_and_in _ _ | exact pm_shr_in _ _ | exact pm_or_in _ _ | exact pm_xor_in _ _ | exact pm_shl_in _ _ | exact pm_cmp_in _ _ | exact pm_b8_in _ | (unfold pm_inI; split <;> omega)) (by first | (unfold pm_inI; omega) | exact pm_and_in _ _ | exact pm_shr_in _ _ | exact pm_or_in _ _ | exact pm_xor_in _ _ | exact pm_shl_in _ _ | exact pm_cmp_in _ _ | exact pm_b8_in _ | (unfold pm_inI; split <;> omega)) (fun h1 => ?_) (fun h1 => ?_)
      · replace h1 : (L.length : Int) ≤ (i : Int) := h1
        refine g_return lk_19_158 ?_
        omega
      · replace h1 : ¬ ((L.length : Int) ≤ (i : Int)) := h1
        refine g_aload_n lk_19_91 rfl ?_
        refine g_getfield lk_19_92 rfl (lay.on (by decide) rfl) (v := ((36 : Nat) : Int)) (lay.rf rfl) ?_
        refine g_iload_n lk_19_95 rfl ?_
        refine g_lconst lk_19_96 ?_
        have lay2 : Lay (Mu [(36, pm_upd (pm_ct N 36) i 0)] N) := lay.muA (l := []) (a := 36) (f := pm_upd (pm_ct N 36) i 0) rfl rfl
        refine m_lastore (u := []) (u' := [(36, pm_upd (pm_ct N 36) i 0)]) (M := N) lk_19_97 (lay.ay (by decide) rfl) (by omega) (j := i) (by omega) rfl ?_
        refine g_iload_n lk_19_98 rfl ?_
        refine g_iconst lk_19_99 ?_
        refine g_iadd lk_19_100 ?_
        refine g_istore_n (ls' := [(2, ((34 : Nat) : Int)), (0, (v : Int)), (0, (i : Int)), (0, ((i : Int) + 1))]) lk_19_101 rfl rfl ?_
        refine lj (L.length - (i + 1)) i (i + 1) _ (by omega) (by omega) lay2 (hF.trans (Fr.mu _ _ rfl)) hM ⟨by rw [Mu_ct]; exact c5, fun k x h => by rw [Mu_ct]; exact hc.2 k x h⟩ (fun q hq => ?_) ?_ (fun N' b1 b2 b3 b4 b5 v3 => ih (i + 1) v3 N' (by omega) b1 b2 b3 b4 b5)
        · rw [Mu_ct]
          show pm_upd (pm_ct N 36) i _ q = _
          rw [pm_upd_ne (by omega)]; exact hk q hq
        · rw [Mu_ct, ptm_0 _ _ _ _ _ (Nat.le_refl _)]
          show pm_upd (pm_ct N 36) i _ i = _
          rw [pm_upd_eq]; rfl
  have lc : ∀ (n r c : Nat) (N : pm_M), c + n = tC T → r < tR T → Lay N → Fr [34, 35, 36] M N → TbAt N 24 T → CeAt N (fa T v r ++ frow T v r c) →
      (∀ N' : pm_M, Lay N' → Fr [34, 35, 36] M N' → TbAt N' 24 T → CeAt N' (fa T v (r + 1)) → ∀ v3 : pm_V, Wp (d + 2) 19 7 [(2, ((34 : Nat) : Int)), (0, (v : Int)), (0, ((r + 1 : Nat) : Int)), v3] [] N' mc ms Q) →
      Wp (d + 2) 19 20 [(2, ((34 : Nat) : Int)), (0, (v : Int)), (0, (r : Int)), (0, (c : Int))] [] N mc ms Q := by
    intro n
    induction n with
    | zero =>
      intro r c N hc hr lay hF hM hl k
      refine g_iload_n lk_19_20 rfl ?_
      refine g_aload_n lk_19_21 rfl ?_
      refine g_getfield lk_19_22 rfl (lay.on (by decide) rfl) (v := ((24 : Nat) : Int)) (lay.rf rfl) ?_
      refine m_getfield (u := []) (M := N) lk_19_25 rfl (lay.on (by decide) rfl) (v := (tC T : Int)) hM.2.1 ?_
      refine g_icmp (t := 75) lk_19_28 rfl (by first | (unfold pm_inI; omega) | exact pm_and_in _ _ | exact pm_shr_in _ _ | exact pm_or_in _ _ | exact pm_xor_in _ _ | exact pm_shl_in _ _ | exact pm_cmp_in _ _ | exact pm_b8_in _ | (unfold pm_inI; split <;> omega)) (by first | (unfold pm_inI; omega) | exact pm_and_in _ _ | exact pm_shr_in _ _ | exact pm_or_in _ _ | exact pm_xor_in _ _ | exact pm_shl_in _ _ | exact pm_cmp_in _ _ | exact pm_b8_in _ | (unfold pm_inI; split <;> omega)) (fun h1 => ?_) (fun h1 => ?_)
      · replace h1 : (tC T : Int) ≤ (c : Int) := h1
        refine g_iinc (ls' := [(2, ((34 : Nat) : Int)), (0, (v : Int)), (0, ((r : Int) + 1)), (0, (c : Int))]) lk_19_75 rfl rfl rfl ?_
        refine g_goto (t := 7) lk_19_78 rfl ?_
        refine k N lay hF hM ?_ _
        rw [show c = tC T by omega] at hl; exact hl
      · replace h1 : ¬ ((tC T : Int) ≤ (c : Int)) := h1
        omega
    | succ n ih =>
      intro r c N hc hr lay hF hM hl k
      have hx := hT.2.2.1 (6 * r + c)
      have e := frow_s T v r c
      have l1 := fa_len hT v r
      have l2 := frow_len T v r c
      obtain ⟨l, h_l⟩ : ∃ l, l = fa T v r ++ frow T v r c := ⟨_, rfl⟩
      have l3 : l.length ≤ 6 * r + c := by rw [h_l, List.length_append]; omega
      rw [← h_l] at hl
      obtain ⟨c5, cx⟩ := id hl
      refine g_iload_n lk_19_20 rfl ?_
      refine g_aload_n lk_19_21 rfl ?_
      refine g_getfield lk_19_22 rfl (lay.on (by decide) rfl) (v := ((24 : Nat) : Int)) (lay.rf rfl) ?_
      refine m_getfield (u := []) (M := N) lk_19_25 rfl (lay.on (by decide) rfl) (v := (tC T : Int)) hM.2.1 ?_
      refine g_icmp (t := 75) lk_19_28 rfl (by first | (unfold pm_inI; omega) | exact pm_and_in _ _ | exact pm_shr_in _ _ | exact pm_or_in _ _ | exact pm_xor_in _ _ | exact pm_shl_in _ _ | exact pm_cmp_in _ _ | exact pm_b8_in _ | (unfold pm_inI; split <;> omega)) (by first | (unfold pm_inI; omega) | exact pm_and_in _ _ | exact pm_shr_in _ _ | exact pm_or_in _ _ | exact pm_xor_in _ _ | exact pm_shl_in _ _ | exact pm_cmp_in _ _ | exact pm_b8_in _ | (unfold pm_inI; split <;> omega)) (fun h1 => ?_) (fun h1 => ?_)
      · replace h1 : (tC T : Int) ≤ (c : Int) := h1
        refine g_iinc (ls' := [(2, ((34 : Nat) : Int)), (0, (v : Int)), (0, ((r : Int) + 1)), (0, (c : Int))]) lk_19_75 rfl rfl rfl ?_
        refine g_goto (t := 7) lk_19_78 rfl ?_
        omega
      · replace h1 : ¬ ((tC T : Int) ≤ (c : Int)) := h1
        refine g_aload_n lk_19_31 rfl ?_
        refine g_getfield lk_19_32 rfl (lay.on (by decide) rfl) (v := ((24 : Nat) : Int)) (lay.rf rfl) ?_
        refine g_iload_n lk_19_35 rfl ?_
        refine g_iload_n lk_19_36 rfl ?_
        refine g_virtual (p := 24) (Qc := _) lk_19_37 rfl (Nat.le_of_ble_eq_true rfl) rfl rfl (lay.on (by decide) rfl) (Nat.le_of_ble_eq_true rfl) (Nat.le_of_ble_eq_true rfl) (Nat.zero_le _) (Nat.zero_le _) (c_Table_at lay ht hM (by omega) (by omega)) ?_
        rintro _ N2 ⟨rfl, hN2⟩
        rw [hN2]
        show Wp _ 19 40 [(2, ((34 : Nat) : Int)), (0, (v : Int)), (0, (r : Int)), (0, (c : Int))] [(0, (tX T (6 * r + c) : Int))] N _ _ _
        refine g_iload_n lk_19_40 rfl ?_
        refine g_icmp (t := 69) lk_19_41 rfl (by first | (unfold pm_inI; omega) | exact pm_and_in _ _ | exact pm_shr_in _ _ | exact pm_or_in _ _ | exact pm_xor_in _ _ | exact pm_shl_in _ _ | exact pm_cmp_in _ _ | exact pm_b8_in _ | (unfold pm_inI; split <;> omega)) (by first | (unfold pm_inI; omega) | exact pm_and_in _ _ | exact pm_shr_in _ _ | exact pm_or_in _ _ | exact pm_xor_in _ _ | exact pm_shl_in _ _ | exact pm_cmp_in _ _ | exact pm_b8_in _ | (unfold pm_inI; split <;> omega)) (fun h3 => ?_) (fun h3 => ?_)
        · replace h3 : ¬ (tX T (6 * r + c) : Int) = (v : Int) := h3
          refine g_iinc (ls' := [(2, ((34 : Nat) : Int)), (0, (v : Int)), (0, (r : Int)), (0, ((c : Int) + 1))]) lk_19_69 rfl rfl rfl ?_
          refine g_goto (t := 20) lk_19_72 rfl ?_
          rw [if_neg (by rw [beq_iff_eq]; omega)] at e
          exact ih r (c + 1) N (by omega) hr lay hF hM (by rw [e, ← h_l]; exact hl) k
        · replace h3 : ¬ (¬ (tX T (6 * r + c) : Int) = (v : Int)) := h3
          refine g_aload_n lk_19_44 rfl ?_
          refine g_getfield lk_19_45 rfl (lay.on (by decide) rfl) (v := ((35 : Nat) : Int)) (lay.rf rfl) ?_
          refine g_aload_n lk_19_48 rfl ?_
          refine m_getfield (u := []) (M := N) lk_19_49 rfl (lay.on (by decide) rfl) (v := (l.length : Int)) c5 ?_
          refine g_iload_n lk_19_52 rfl ?_
          refine g_bipush lk_19_53 ?_
          refine g_imul lk_19_55 ?_
          refine g_iload_n lk_19_56 rfl ?_
          refine g_iadd lk_19_57 ?_
          have lay4 : Lay (Mu [(35, pm_upd (pm_ct N 35) ((l.length : Int).toNat) (((r : Int) * 6) + (c : Int)))] N) := lay.muA (l := []) (a := 35) (f := pm_upd (pm_ct N 35) ((l.length : Int).toNat) (((r : Int) * 6) + (c : Int))) rfl rfl
          refine m_iastore (u := []) (u' := [(35, pm_upd (pm_ct N 35) ((l.length : Int).toNat) (((r : Int) * 6) + (c : Int)))]) (M := N) lk_19_58 (lay.ay (by decide) rfl) (by omega) (j := (l.length : Int).toNat) (by omega) rfl ?_
          refine g_aload_n lk_19_59 rfl ?_
          refine g_dup lk_19_60 rfl ?_
          refine m_getfield (u := [(35, pm_upd (pm_ct N 35) ((l.length : Int).toNat) (((r : Int) * 6) + (c : Int)))]) (M := N) lk_19_61 rfl (lay4.on (by decide) rfl) (v := (l.length : Int)) c5 ?_
          refine g_iconst lk_19_64 ?_
          refine g_iadd lk_19_65 ?_
          have lay5 : Lay (Mu [(35, pm_upd (pm_ct N 35) ((l.length : Int).toNat) (((r : Int) * 6) + (c : Int))), (34, pm_upd (pm_ct N 34) 5 ((l.length : Int) + 1))] N) := lay4.muF (l := [(35, pm_upd (pm_ct N 35) ((l.length : Int).toNat) (((r : Int) * 6) + (c : Int)))]) (a := 34) (k := 5) (z := ((l.length : Int) + 1)) rfl rfl
          refine m_putfield (u := [(35, pm_upd (pm_ct N 35) ((l.length : Int).toNat) (((r : Int) * 6) + (c : Int)))]) (u' := [(35, pm_upd (pm_ct N 35) ((l.length : Int).toNat) (((r : Int) * 6) + (c : Int))), (34, pm_upd (pm_ct N 34) 5 ((l.length : Int) + 1))]) (M := N) lk_19_66 rfl (lay4.on (by decide) rfl) (fun h => absurd h (by decide)) rfl ?_
          refine g_iinc (ls' := [(2, ((34 : Nat) : Int)), (0, (v : Int)), (0, (r : Int)), (0, ((c : Int) + 1))]) lk_19_69 rfl rfl rfl ?_
          refine g_goto (t := 20) lk_19_72 rfl ?_
          rw [if_pos (by rw [beq_iff_eq]; omega)] at e
          refine ih r (c + 1) _ (by omega) hr lay5 (hF.trans (Fr.mu _ _ rfl)) hM ?_ k
          rw [e, ← List.append_assoc, ← h_l]
          refine ⟨?_, fun k x hk => ?_⟩
          · rw [Mu_ct, List.length_append]; rfl
          · rw [Mu_ct]
            show pm_upd (pm_ct N 35) l.length _ k = _
            by_cases h : k = l.length
            · rw [h, List.getElem?_append_right (Nat.le_refl _), Nat.sub_self] at hk
              have hk : 6 * r + c = x := by simpa using hk
              rw [h, pm_upd_eq]; omega
            · rw [pm_upd_ne h]
              have : k < l.length := by
                have := (List.getElem?_eq_some_iff.mp hk).1
                rw [List.length_append] at this
                have e1 : [6 * r + c].length = 1 := rfl
                omega
              rw [List.getElem?_append_left this] at hk
              exact cx k x hk
  have lr : ∀ (n r : Nat) (v3 : pm_V) (N : pm_M), r + n = tR T → Lay N → Fr [34, 35, 36] M N → TbAt N 24 T → CeAt N (fa T v r) → Wp (d + 2) 19 7 [(2, ((34 : Nat) : Int)), (0, (v : Int)), (0, (r : Int)), v3] [] N mc ms Q := by
    intro n
    induction n with
    | zero =>
      intro r v3 N hr lay hF hM hl
      refine g_iload_n lk_19_7 rfl ?_
      refine g_aload_n lk_19_8 rfl ?_
      refine g_getfield lk_19_9 rfl (lay.on (by decide) rfl) (v := ((24 : Nat) : Int)) (lay.rf rfl) ?_
      refine m_getfield (u := []) (M := N) lk_19_12 rfl (lay.on (by decide) rfl) (v := (tR T : Int)) hM.1 ?_
      refine g_icmp (t := 81) lk_19_15 rfl (by first | (unfold pm_inI; omega) | exact pm_and_in _ _ | exact pm_shr_in _ _ | exact pm_or_in _ _ | exact pm_xor_in _ _ | exact pm_shl_in _ _ | exact pm_cmp_in _ _ | exact pm_b8_in _ | (unfold pm_inI; split <;> omega)) (by first | (unfold pm_inI; omega) | exact pm_and_in _ _ | exact pm_shr_in _ _ | exact pm_or_in _ _ | exact pm_xor_in _ _ | exact pm_shl_in _ _ | exact pm_cmp_in _ _ | exact pm_b8_in _ | (unfold pm_inI; split <;> omega)) (fun h1 => ?_) (fun h1 => ?_)
      · replace h1 : (tR T : Int) ≤ (r : Int) := h1
        refine g_iconst lk_19_81 ?_
        refine g_istore_n (ls' := [(2, ((34 : Nat) : Int)), (0, (v : Int)), (0, 0), v3]) lk_19_82 rfl rfl ?_
        refine li L.length 0 _ N (by omega) lay hF hM ?_ (fun k hk => absurd hk (Nat.not_lt_zero k))
        rw [hL]; unfold fc; rw [show r = tR T by omega] at hl; exact hl
      · replace h1 : ¬ ((tR T : Int) ≤ (r : Int)) := h1
        omega
    | succ n ih =>
      intro r v3 N hr lay hF hM hl
      refine g_iload_n lk_19_7 rfl ?_
      refine g_aload_n lk_19_8 rfl ?_
      refine g_getfield lk_19_9 rfl (lay.on (by decide) rfl) (v := ((24 : Nat) : Int)) (lay.rf rfl) ?_
      refine m_getfield (u := []) (M := N) lk_19_12 rfl (lay.on (by decide) rfl) (v := (tR T : Int)) hM.1 ?_
      refine g_icmp (t := 81) lk_19_15 rfl (by first | (unfold pm_inI; omega) | exact pm_and_in _ _ | exact pm_shr_in _ _ | exact pm_or_in _ _ | exact pm_xor_in _ _ | exact pm_shl_in _ _ | exact pm_cmp_in _ _ | exact pm_b8_in _ | (unfold pm_inI; split <;> omega)) (by first | (unfold pm_inI; omega) | exact pm_and_in _ _ | exact pm_shr_in _ _ | exact pm_or_in _ _ | exact pm_xor_in _ _ | exact pm_shl_in _ _ | exact pm_cmp_in _ _ | exact pm_b8_in _ | (unfold pm_inI; split <;> omega)) (fun h1 => ?_) (fun h1 => ?_)
      · replace h1 : (tR T : Int) ≤ (r : Int) := h1
        omega
      · replace h1 : ¬ ((tR T : Int) ≤ (r : Int)) := h1
        refine g_iconst lk_19_18 ?_
        refine g_istore_n (ls' := [(2, ((34 : Nat) : Int)), (0, (v : Int)), (0, (r : Int)), (0, 0)]) lk_19_19 rfl rfl ?_
        refine lc (tC T) r 0 N (by omega) (by omega) lay hF hM ?_ (fun N' b1 b2 b3 b4 v3 => ih (r + 1) v3 N' (by omega) b1 b2 b3 b4)
        show CeAt N (fa T v r ++ [])
        rw [List.append_nil]; exact hl
  show Wp (d + 2) 19 0 [(2, ((34 : Nat) : Int)), (0, (v : Int)), (9, 0), (9, 0)] [] M mc ms Q
  refine g_aload_n lk_19_0 rfl ?_
  refine g_iconst lk_19_1 ?_
  have lay1 : Lay (Mu [(34, pm_upd (pm_ct M 34) 5 0)] M) := lay0.muF (l := []) (a := 34) (k := 5) (z := 0) rfl rfl
  refine m_putfield (u := []) (u' := [(34, pm_upd (pm_ct M 34) 5 0)]) (M := M) lk_19_2 rfl (lay0.on (by decide) rfl) (fun h => absurd h (by decide)) rfl ?_
  refine g_iconst lk_19_5 ?_
  refine g_istore_n (ls' := [(2, ((34 : Nat) : Int)), (0, (v : Int)), (0, 0), (9, 0)]) lk_19_6 rfl rfl ?_
  refine lr (tR T) 0 _ _ (by omega) lay1 (Fr.mu _ _ rfl) hM0 ⟨?_, fun k x hk => by cases hk⟩
  rw [Mu_ct]; rfl
