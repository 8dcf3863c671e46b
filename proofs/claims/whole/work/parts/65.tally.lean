/-! ===== Spoilt: how often each value stands in an area, six bits each ===== -/
def ta (T : Tab) (rs cs : Nat) : Nat := sm (fun v => nV T rs cs v * 64 ^ v) 10
theorem nV_rows {T : Tab} {rs a b cs v : Nat} (h : ∀ r, r < tR T → rs.testBit r = (a.testBit r || b.testBit r)) (hd : ∀ r, r < tR T → (a.testBit r && b.testBit r) = false) : nV T rs cs v = nV T a cs v + nV T b cs v := by
  unfold nV
  rw [← sm_add]
  refine sm_congr (fun r hr => ?_)
  rw [← sm_add]
  refine sm_congr (fun c _ => ?_)
  have h1 := h r hr
  have h2 := hd r hr
  unfold dv
  rw [h1]
  cases q1 : a.testBit r <;> cases q2 : b.testBit r <;> rw [q1, q2] at h2 <;> simp_all
theorem nV_cols {T : Tab} {rs a b cs v : Nat} (h : ∀ c, c < tC T → cs.testBit c = (a.testBit c || b.testBit c)) (hd : ∀ c, c < tC T → (a.testBit c && b.testBit c) = false) : nV T rs cs v = nV T rs a v + nV T rs b v := by
  unfold nV
  rw [← sm_add]
  refine sm_congr (fun r _ => ?_)
  rw [← sm_add]
  refine sm_congr (fun c hc => ?_)
  have h1 := h c hc
  have h2 := hd c hc
  unfold dv
  rw [h1]
  cases q1 : a.testBit c <;> cases q2 : b.testBit c <;> rw [q1, q2] at h2 <;> simp_all
theorem nV_one {T : Tab} {r c v : Nat} (hr : r < tR T) (hc : c < tC T) : nV T (2 ^ r) (2 ^ c) v = if tX T (6 * r + c) = v then 1 else 0 := by
  unfold nV
  rw [sm_only hr (fun i _ hne => sm_z _ (fun j _ => by unfold dv; rw [Nat.testBit_two_pow]; simp [Ne.symm hne])), sm_only hc (fun j _ hne => by unfold dv; rw [Nat.testBit_two_pow, Nat.testBit_two_pow]; simp [Ne.symm hne])]
  unfold dv
  rw [Nat.testBit_two_pow, Nat.testBit_two_pow]
  by_cases h : tX T (6 * r + c) = v <;> simp [h]
theorem nV_c0 (T : Tab) (rs v : Nat) : nV T rs 0 v = 0 := sm_z _ (fun r _ => sm_z _ (fun c _ => by unfold dv; simp))
theorem ta_rows {T : Tab} {rs a b cs : Nat} (h : ∀ r, r < tR T → rs.testBit r = (a.testBit r || b.testBit r)) (hd : ∀ r, r < tR T → (a.testBit r && b.testBit r) = false) : ta T rs cs = ta T a cs + ta T b cs := by
  unfold ta
  rw [← sm_add]
  refine sm_congr (fun v _ => ?_)
  rw [nV_rows h hd, Nat.add_mul]
theorem ta_cols {T : Tab} {rs a b cs : Nat} (h : ∀ c, c < tC T → cs.testBit c = (a.testBit c || b.testBit c)) (hd : ∀ c, c < tC T → (a.testBit c && b.testBit c) = false) : ta T rs cs = ta T rs a + ta T rs b := by
  unfold ta
  rw [← sm_add]
  refine sm_congr (fun v _ => ?_)
  rw [nV_cols h hd, Nat.add_mul]
theorem ta_c0 (T : Tab) (rs : Nat) : ta T rs 0 = 0 := sm_z _ (fun v _ => by rw [nV_c0, Nat.zero_mul])
theorem ta_one {T : Tab} {r c : Nat} (hr : r < tR T) (hc : c < tC T) : ta T (2 ^ r) (2 ^ c) = if tX T (6 * r + c) < 10 then 64 ^ tX T (6 * r + c) else 0 := by
  unfold ta
  by_cases h : tX T (6 * r + c) < 10
  · rw [if_pos h, sm_only h (fun i _ hne => by rw [nV_one hr hc, if_neg (fun e => hne e.symm), Nat.zero_mul]), nV_one hr hc, if_pos rfl, Nat.one_mul]
  · rw [if_neg h]
    exact sm_z _ (fun v hv => by rw [nV_one hr hc, if_neg (by omega), Nat.zero_mul])
theorem dig : ∀ (v n : Nat) (a : Nat → Nat), v < n → (∀ j, j < n → a j < 64) → sm (fun j => a j * 64 ^ j) n / 64 ^ v % 64 = a v
  | _, 0, _, h, _ => by omega
  | v, n + 1, a, hv, ha => by
    have e : sm (fun j => a j * 64 ^ j) (n + 1) = a 0 + 64 * sm (fun j => a (j + 1) * 64 ^ j) n := by
      rw [sm_shift, ← sm_mul]
      show a 0 * 1 + _ = _
      rw [Nat.mul_one]
      congr 1
      refine sm_congr (fun j _ => ?_)
      show a (j + 1) * 64 ^ (j + 1) = 64 * (a (j + 1) * 64 ^ j)
      rw [Nat.pow_succ, ← Nat.mul_assoc, Nat.mul_comm]
    have h0 := ha 0 (by omega)
    rw [e]
    cases v with
    | zero => rw [Nat.pow_zero, Nat.div_one]; omega
    | succ v =>
      rw [Nat.pow_succ, Nat.mul_comm (64 ^ v) 64, ← Nat.div_div_eq_div_mul, show (a 0 + 64 * sm (fun j => a (j + 1) * 64 ^ j) n) / 64 = sm (fun j => a (j + 1) * 64 ^ j) n by omega]
      exact dig v n (fun j => a (j + 1)) (by omega) (fun j hj => ha (j + 1) (by omega))
theorem ta_dig {T : Tab} (hT : TabOK T) (rs cs : Nat) {v : Nat} (hv : v < 10) : ta T rs cs / 64 ^ v % 64 = nV T rs cs v := dig v 10 (nV T rs cs) hv (fun j _ => by have := nV_36 hT rs cs j; omega)
theorem sm64 : ∀ (n : Nat) (a : Nat → Nat), (∀ j, j < n → a j < 64) → sm (fun j => a j * 64 ^ j) n < 64 ^ n
  | 0, _, _ => (by decide : 0 < 1)
  | n + 1, a, h => by
    have ih := sm64 n a (fun j hj => h j (by omega))
    have h1 := h n (by omega)
    show sm (fun j => a j * 64 ^ j) n + a n * 64 ^ n < 64 ^ (n + 1)
    have h2 : (a n + 1) * 64 ^ n ≤ 64 * 64 ^ n := Nat.mul_le_mul_right _ (by omega)
    rw [Nat.add_mul, Nat.one_mul] at h2
    rw [Nat.pow_succ, Nat.mul_comm (64 ^ n) 64]; omega
theorem ta_lt {T : Tab} (hT : TabOK T) (rs cs : Nat) : ta T rs cs < 1152921504606846976 := sm64 10 (nV T rs cs) (fun j _ => by have := nV_36 hT rs cs j; omega)
theorem mx_s (T : Tab) (rs cs v : Nat) : mx T rs cs (v + 1) = max (mx T rs cs v) (nV T rs cs v) := rfl
theorem nV_nA (T : Tab) (rs cs : Nat) {v : Nat} (hv : v ≠ 10) : nV T rs cs v ≤ nA T rs cs := by
  unfold nV nA
  refine sm_le (fun r _ => sm_le (fun c _ => ?_))
  unfold dv da
  by_cases h : tX T (6 * r + c) = v
  · have h10 : tX T (6 * r + c) ≠ 10 := by omega
    rw [beq_iff_eq.mpr h, bne_iff_ne.mpr h10]
    exact Nat.le_refl _
  · rw [beq_eq_false_iff_ne.mpr h, Bool.and_false]
    exact Nat.zero_le _
theorem mx_nA (T : Tab) (rs cs : Nat) : ∀ v, v ≤ 10 → mx T rs cs v ≤ nA T rs cs
  | 0, _ => Nat.zero_le _
  | v + 1, h => by rw [mx_s]; exact Nat.max_le.mpr ⟨mx_nA T rs cs v (by omega), nV_nA T rs cs (by omega)⟩
theorem p64 (v : Nat) : 64 ^ v = 2 ^ (6 * v) := by rw [Nat.pow_mul]
theorem pm_dig {x v : Nat} (hx : x < 1152921504606846976) (hv : v < 10) : pm_andL (pm_shrL (x : Int) ((v : Int) * 6)) 63 = ((x / 64 ^ v % 64 : Nat) : Int) := by
  have h1 := pm_shrL_n (a := x) (k := 6 * v) (by omega) (by omega)
  rw [show ((6 * v : Nat) : Int) = (v : Int) * 6 by omega, ← p64] at h1
  rw [h1]
  have h2 := pm_andL_n (a := x / 64 ^ v) (b := 63) (Nat.lt_of_le_of_lt (Nat.div_le_self _ _) (by omega))
  rw [show ((63 : Nat) : Int) = 63 from rfl] at h2
  rw [h2, show (63 : Nat) = 2 ^ 6 - 1 from rfl, Nat.and_two_pow_sub_one_eq_mod]
set_option maxHeartbeats 4000000 in
theorem c_Spoilt_mostIn {d mc ms : Nat} {M : pm_M} {T : Tab} (hT : TabOK T) {rs cs : Nat} :
    pm_E (d + 1) 77 [(1, ((ta T rs cs : Nat) : Int))] M mc ms (fun ρ M' => ρ = some (0, (mx T rs cs 10 : Int)) ∧ M' = M) := by
  obtain ⟨Q, hQ⟩ : ∃ Q : pm_Q, Q = (fun ρ M' => ρ = some (0, (mx T rs cs 10 : Int)) ∧ M' = M) := ⟨_, rfl⟩
  rw [← hQ]
  have tl := ta_lt hT rs cs
  obtain ⟨t, htt⟩ : ∃ t, t = ta T rs cs := ⟨_, rfl⟩
  have loop : ∀ (n v : Nat), v + n = 10 → Wp (d + 1) 77 4 [(1, (t : Int)), (9, 0), (0, (mx T rs cs v : Int)), (0, (v : Int))] [] M mc ms Q := by
    intro n
    induction n with
    | zero =>
      intro v hv
      refine g_iload_n lk_77_4 rfl ?_
      refine g_bipush lk_77_5 ?_
      refine g_icmp (t := 32) lk_77_7 rfl (by first | (unfold pm_inI; omega) | exact pm_and_in _ _ | exact pm_shr_in _ _ | exact pm_or_in _ _ | exact pm_xor_in _ _ | exact pm_shl_in _ _ | exact pm_cmp_in _ _ | exact pm_b8_in _ | (unfold pm_inI; split <;> omega)) (by first | (unfold pm_inI; omega) | exact pm_and_in _ _ | exact pm_shr_in _ _ | exact pm_or_in _ _ | exact pm_xor_in _ _ | exact pm_shl_in _ _ | exact pm_cmp_in _ _ | exact pm_b8_in _ | (unfold pm_inI; split <;> omega)) (fun h1 => ?_) (fun h1 => ?_)
      · replace h1 : 10 ≤ (v : Int) := h1
        refine g_iload_n lk_77_32 rfl ?_
        refine g_ireturn lk_77_33 (fun h => absurd h (by decide)) ?_
        rw [hQ, show v = 10 by omega]
        exact ⟨rfl, rfl⟩
      · replace h1 : ¬ (10 ≤ (v : Int)) := h1
        omega
    | succ n ih =>
      intro v hv
      have e1 : pm_andL (pm_shrL (t : Int) ((v : Int) * 6)) 63 = (nV T rs cs v : Int) := by
        rw [htt, pm_dig tl (by omega), ta_dig hT rs cs (by omega)]
      have b1 := nV_36 hT rs cs v
      have b2 := mx_nA T rs cs v (by omega)
      have b3 := nA_36 hT rs cs
      have e2 : max ((mx T rs cs v : Nat) : Int) ((nV T rs cs v : Nat) : Int) = ((mx T rs cs (v + 1) : Nat) : Int) := by rw [mx_s]; omega
      refine g_iload_n lk_77_4 rfl ?_
      refine g_bipush lk_77_5 ?_
      refine g_icmp (t := 32) lk_77_7 rfl (by first | (unfold pm_inI; omega) | exact pm_and_in _ _ | exact pm_shr_in _ _ | exact pm_or_in _ _ | exact pm_xor_in _ _ | exact pm_shl_in _ _ | exact pm_cmp_in _ _ | exact pm_b8_in _ | (unfold pm_inI; split <;> omega)) (by first | (unfold pm_inI; omega) | exact pm_and_in _ _ | exact pm_shr_in _ _ | exact pm_or_in _ _ | exact pm_xor_in _ _ | exact pm_shl_in _ _ | exact pm_cmp_in _ _ | exact pm_b8_in _ | (unfold pm_inI; split <;> omega)) (fun h1 => ?_) (fun h1 => ?_)
      · replace h1 : 10 ≤ (v : Int) := h1
        refine g_iload_n lk_77_32 rfl ?_
        refine g_ireturn lk_77_33 (fun h => absurd h (by decide)) ?_
        omega
      · replace h1 : ¬ (10 ≤ (v : Int)) := h1
        refine g_iload_n lk_77_10 rfl ?_
        refine g_lload_n lk_77_11 rfl ?_
        refine g_iload_n lk_77_12 rfl ?_
        refine g_bipush lk_77_13 ?_
        refine g_imul lk_77_15 ?_
        refine g_lshr lk_77_16 ?_
        refine g_ldc2_w lk_77_17 ?_
        refine g_land lk_77_20 ?_
        refine g_top (z := (pm_andL (pm_shrL (t : Int) ((v : Int) * 6)) 63)) (z' := (nV T rs cs v : Int)) (e1) ?_
        refine g_l2i lk_77_21 ?_
        refine g_mmax lk_77_22 (by first | (unfold pm_inI; omega) | exact pm_and_in _ _ | exact pm_shr_in _ _ | exact pm_or_in _ _ | exact pm_xor_in _ _ | exact pm_shl_in _ _ | exact pm_cmp_in _ _ | exact pm_b8_in _ | (unfold pm_inI; split <;> omega)) (by first | (unfold pm_inI; omega) | exact pm_and_in _ _ | exact pm_shr_in _ _ | exact pm_or_in _ _ | exact pm_xor_in _ _ | exact pm_shl_in _ _ | exact pm_cmp_in _ _ | exact pm_b8_in _ | (unfold pm_inI; split <;> omega)) (Nat.le_of_ble_eq_true rfl) ?_
        refine g_top (z := (max (mx T rs cs v : Int) (nV T rs cs v : Int))) (z' := (mx T rs cs (v + 1) : Int)) (e2) ?_
        refine g_istore_n (ls' := [(1, (t : Int)), (9, 0), (0, (mx T rs cs (v + 1) : Int)), (0, (v : Int))]) lk_77_25 rfl rfl ?_
        refine g_iinc (ls' := [(1, (t : Int)), (9, 0), (0, (mx T rs cs (v + 1) : Int)), (0, ((v : Int) + 1))]) lk_77_26 rfl rfl rfl ?_
        refine g_goto (t := 4) lk_77_29 rfl ?_
        exact ih (v + 1) (by omega)
  rw [← htt]
  show Wp (d + 1) 77 0 [(1, (t : Int)), (9, 0), (9, 0), (9, 0)] [] M mc ms Q
  refine g_iconst lk_77_0 ?_
  refine g_istore_n (ls' := [(1, (t : Int)), (9, 0), (0, 0), (9, 0)]) lk_77_1 rfl rfl ?_
  refine g_iconst lk_77_2 ?_
  refine g_istore_n (ls' := [(1, (t : Int)), (9, 0), (0, 0), (0, 0)]) lk_77_3 rfl rfl ?_
  exact loop 10 0 rfl
theorem lw_fst {s n : Nat} (hs : s < 64) (h0 : s ≠ 0) (hn : s < 2 ^ n) : fstb s < n := by
  obtain ⟨-, -, -, -, -, -, q4, -⟩ := lw_tab ⟨s, hs⟩ h0
  refine Nat.lt_of_not_le (fun q => ?_)
  replace q4 : s.testBit (fstb s) = true := q4
  rw [Nat.testBit_lt_two_pow (Nat.lt_of_lt_of_le hn (Nat.pow_le_pow_right (by omega) q))] at q4
  cases q4
set_option maxHeartbeats 4000000 in
theorem c_Spoilt_tallyInRow {d mc ms : Nat} {M : pm_M} (lay : Lay M) {T : Tab} (hT : TabOK T) (hM : TbAt M 24 T) {cn n : Nat} (oc : own cn) (w3 : pm_ct M 51 3 = ((cn : Nat) : Int)) (hay : pm_ay M cn 101 n) (hn : siz T ≤ n) {r cs : Nat} (hr : r < tR T) (h1 : 1 ≤ cs) (h2 : cs < 2 ^ tC T) (hin : ∀ q, q < cs → pm_ct M cn (num T (2 ^ r) q) = (ta T (2 ^ r) q : Int)) :
    pm_E (d + 2) 76 [(2, ((51 : Nat) : Int)), (0, ((2 ^ r : Nat) : Int)), (0, (cs : Int))] M mc ms (fun ρ M' => ρ = some (1, (ta T (2 ^ r) cs : Int)) ∧ M' = M) := by
  have ht : (24 : Nat) = 4 ∨ (24 : Nat) = 24 := Or.inr rfl
  have hR := hT.1
  have hC := hT.2.1
  have c64 := lt_64_of hC.2 h2
  obtain ⟨p64', pR, _⟩ := p2_64 hr hR.2
  have cf := lw_fst c64 (by omega) h2
  obtain ⟨q0, q5, q1, q2, q6, q3, q4, q7, q8⟩ := lw_tab ⟨cs, c64⟩ (by show cs ≠ 0; omega)
  have lb := lw_bits ⟨cs, c64⟩ (by show cs ≠ 0; omega)
  replace lb : ∀ j : Fin 6, cs.testBit (j : Nat) = ((lw cs).testBit (j : Nat) || (cs - lw cs).testBit (j : Nat)) ∧ ((lw cs).testBit (j : Nat) && (cs - lw cs).testBit (j : Nat)) = false := lb
  have plc : ∀ j : Fin 6, pop (2 ^ (j : Nat)) = 1 ∧ fstb (2 ^ (j : Nat)) = (j : Nat) := by decide +kernel
  obtain ⟨pl1, pl2⟩ := plc ⟨r, by omega⟩
  replace pl1 : pop (2 ^ r) = 1 := pl1
  replace pl2 : fstb (2 ^ r) = r := pl2
  have tl := ta_cols (T := T) (rs := 2 ^ r) (fun j hj => (lb ⟨j, by omega⟩).1) (fun j hj => (lb ⟨j, by omega⟩).2)
  have rd := hin (cs - lw cs) (by have : 1 ≤ lw cs := q1; omega)
  have nl := num_lt (T := T) pR (show cs - lw cs < 2 ^ tC T by omega)
  obtain ⟨fb, hfb⟩ : ∃ fb, fb = fstb cs := ⟨_, rfl⟩
  have elw : lw cs = 2 ^ fb := by rw [hfb]; rfl
  rw [← hfb] at cf
  have t1 := ta_one (T := T) hr cf
  rw [← elw] at t1
  have hx := hT.2.2.1 (6 * r + fb)
  obtain ⟨lo, hlo⟩ : ∃ lo, lo = lw cs := ⟨_, rfl⟩
  obtain ⟨re, hre⟩ : ∃ re, re = cs - lw cs := ⟨_, rfl⟩
  obtain ⟨p, hp⟩ : ∃ p, p = 2 ^ r := ⟨_, rfl⟩
  replace q0 : pm_and (cs : Int) (-(cs : Int)) = (lo : Int) := by rw [hlo]; exact q0
  replace q5 : pm_xor (cs : Int) (lo : Int) = (re : Int) := by rw [hlo, hre]; exact q5
  replace q1 : 1 ≤ lo := by rw [hlo]; exact q1
  replace q2 : lo ≤ cs := by rw [hlo]; exact q2
  replace q6 : pop lo = 1 := by rw [hlo]; exact q6
  replace q8 : fstb lo = fb := by rw [hlo, hfb]; exact q8
  rw [← hlo, ← hp] at t1
  rw [← hre, ← hlo, ← hp] at tl
  rw [← hre, ← hp] at rd nl
  rw [← hp] at pl1 pl2 p64' pR ⊢
  have reC : re < 2 ^ tC T := by omega
  obtain ⟨x, hxx⟩ : ∃ x, x = tX T (6 * r + fb) := ⟨_, rfl⟩
  rw [← hxx] at t1 hx
  have shx : x < 10 → pm_shlL 1 ((x : Int) * 6) = ((64 ^ x : Nat) : Int) := fun h => by
    have e : 1 * 2 ^ (6 * x) < 9223372036854775808 := by
      rw [Nat.one_mul]
      exact Nat.lt_of_le_of_lt (Nat.pow_le_pow_right (by omega) (by omega : 6 * x ≤ 54)) (by decide)
    have := pm_shlL_n (a := 1) (k := 6 * x) (by omega) e
    rw [show ((6 * x : Nat) : Int) = (x : Int) * 6 by omega, Nat.one_mul, ← p64] at this
    exact this
  have rx := c_Table_at (d := d + 1) (mc := 0) (ms := 0) lay ht hM (r := r) (c := fb) (by omega) (by omega)
  rw [← hxx] at rx
  show Wp (d + 2) 76 0 [(2, ((51 : Nat) : Int)), (0, (p : Int)), (0, (cs : Int)), (9, 0), (9, 0), (9, 0), (9, 0)] [] M mc ms _
  refine g_iload_n lk_76_0 rfl ?_
  refine g_iload_n lk_76_1 rfl ?_
  refine g_ineg lk_76_2 ?_
  refine g_iand lk_76_3 ?_
  refine g_top (z := (pm_and (cs : Int) (-(cs : Int)))) (z' := (lo : Int)) (q0) ?_
  refine g_istore_n (ls' := [(2, ((51 : Nat) : Int)), (0, (p : Int)), (0, (cs : Int)), (0, (lo : Int)), (9, 0), (9, 0), (9, 0)]) lk_76_4 rfl rfl ?_
  refine g_aload_n lk_76_5 rfl ?_
  refine g_getfield lk_76_6 rfl (lay.on (by decide) rfl) (v := ((24 : Nat) : Int)) (lay.rf rfl) ?_
  refine g_iload_n lk_76_9 rfl ?_
  refine g_static (Qc := _) lk_76_10 (by decide) rfl (Nat.le_of_ble_eq_true rfl) rfl rfl (Nat.le_of_ble_eq_true rfl) (Nat.le_of_ble_eq_true rfl) (Nat.zero_le _) (Nat.zero_le _) ((by have := c_X_placeOf (d := d) (mc := 0) (ms := 0) (M := M) (v := p) (by omega) pl1; rw [pl2] at this; exact this)) ?_
  rintro _ N1 ⟨rfl, hN1⟩
  rw [hN1]
  show Wp _ 76 13 [(2, ((51 : Nat) : Int)), (0, (p : Int)), (0, (cs : Int)), (0, (lo : Int)), (9, 0), (9, 0), (9, 0)] [(0, (r : Int)), (2, ((24 : Nat) : Int))] M _ _ _
  refine g_iload_n lk_76_13 rfl ?_
  refine g_static (Qc := _) lk_76_14 (by decide) rfl (Nat.le_of_ble_eq_true rfl) rfl rfl (Nat.le_of_ble_eq_true rfl) (Nat.le_of_ble_eq_true rfl) (Nat.zero_le _) (Nat.zero_le _) ((by have := c_X_placeOf (d := d) (mc := 0) (ms := 0) (M := M) (v := lo) (by omega) q6; rw [q8] at this; exact this)) ?_
  rintro _ N2 ⟨rfl, hN2⟩
  rw [hN2]
  show Wp _ 76 17 [(2, ((51 : Nat) : Int)), (0, (p : Int)), (0, (cs : Int)), (0, (lo : Int)), (9, 0), (9, 0), (9, 0)] [(0, (fb : Int)), (0, (r : Int)), (2, ((24 : Nat) : Int))] M _ _ _
  refine g_virtual (p := 24) (Qc := _) lk_76_17 rfl (Nat.le_of_ble_eq_true rfl) rfl rfl (lay.on (by decide) rfl) (Nat.le_of_ble_eq_true rfl) (Nat.le_of_ble_eq_true rfl) (Nat.zero_le _) (Nat.zero_le _) (rx) ?_
  rintro _ N3 ⟨rfl, hN3⟩
  rw [hN3]
  show Wp _ 76 20 [(2, ((51 : Nat) : Int)), (0, (p : Int)), (0, (cs : Int)), (0, (lo : Int)), (9, 0), (9, 0), (9, 0)] [(0, (x : Int))] M _ _ _
  refine g_istore (ls' := [(2, ((51 : Nat) : Int)), (0, (p : Int)), (0, (cs : Int)), (0, (lo : Int)), (0, (x : Int)), (9, 0), (9, 0)]) lk_76_20 rfl rfl ?_
  refine g_iload lk_76_22 rfl ?_
  refine g_bipush lk_76_24 ?_
  refine g_icmp (t := 33) lk_76_26 rfl (by first | (unfold pm_inI; omega) | exact pm_and_in _ _ | exact pm_shr_in _ _ | exact pm_or_in _ _ | exact pm_xor_in _ _ | exact pm_shl_in _ _ | exact pm_cmp_in _ _ | exact pm_b8_in _ | (unfold pm_inI; split <;> omega)) (by first | (unfold pm_inI; omega) | exact pm_and_in _ _ | exact pm_shr_in _ _ | exact pm_or_in _ _ | exact pm_xor_in _ _ | exact pm_shl_in _ _ | exact pm_cmp_in _ _ | exact pm_b8_in _ | (unfold pm_inI; split <;> omega)) (fun h4 => ?_) (fun h4 => ?_)
  · replace h4 : ¬ (x : Int) = 10 := h4
    refine g_lconst lk_76_33 ?_
    refine g_iload lk_76_34 rfl ?_
    refine g_bipush lk_76_36 ?_
    refine g_imul lk_76_38 ?_
    refine g_lshl lk_76_39 ?_
    refine g_lstore (ls' := [(2, ((51 : Nat) : Int)), (0, (p : Int)), (0, (cs : Int)), (0, (lo : Int)), (0, (x : Int)), (1, (pm_shlL 1 ((x : Int) * 6))), (9, 0)]) lk_76_40 rfl rfl ?_
    refine g_lload lk_76_42 rfl ?_
    refine g_aload_n lk_76_44 rfl ?_
    refine m_getfield (u := []) (M := M) lk_76_45 rfl (lay.on (by decide) rfl) (v := ((cn : Nat) : Int)) w3 ?_
    refine g_aload_n lk_76_48 rfl ?_
    refine g_getfield lk_76_49 rfl (lay.on (by decide) rfl) (v := ((44 : Nat) : Int)) (lay.rf rfl) ?_
    refine g_iload_n lk_76_52 rfl ?_
    refine g_iload_n lk_76_53 rfl ?_
    refine g_iload_n lk_76_54 rfl ?_
    refine g_ixor lk_76_55 ?_
    refine g_top (z := (pm_xor (cs : Int) (lo : Int))) (z' := (re : Int)) (q5) ?_
    refine g_virtual (p := 44) (Qc := _) lk_76_56 rfl (Nat.le_of_ble_eq_true rfl) rfl rfl (lay.on (by decide) rfl) (Nat.le_of_ble_eq_true rfl) (Nat.le_of_ble_eq_true rfl) (Nat.zero_le _) (Nat.zero_le _) (c_Areas_numberOf lay hT hM (by omega) (by omega)) ?_
    rintro _ N5 ⟨rfl, hN5⟩
    rw [hN5]
    show Wp _ 76 59 [(2, ((51 : Nat) : Int)), (0, (p : Int)), (0, (cs : Int)), (0, (lo : Int)), (0, (x : Int)), (1, (pm_shlL 1 ((x : Int) * 6))), (9, 0)] [(0, (num T p re : Int)), (2, ((cn : Nat) : Int)), (1, (pm_shlL 1 ((x : Int) * 6)))] M _ _ _
    refine g_laload lk_76_59 hay (by omega) (v := (ta T p re : Int)) rd ?_
    refine g_ladd lk_76_60 ?_
    refine g_lreturn lk_76_61 ?_
    refine ⟨?_, rfl⟩
    rw [shx (by omega), tl, t1, if_pos (by omega)]; rfl
  · replace h4 : ¬ (¬ (x : Int) = 10) := h4
    refine g_lconst lk_76_29 ?_
    refine g_goto (t := 40) lk_76_30 rfl ?_
    refine g_lstore (ls' := [(2, ((51 : Nat) : Int)), (0, (p : Int)), (0, (cs : Int)), (0, (lo : Int)), (0, (x : Int)), (1, 0), (9, 0)]) lk_76_40 rfl rfl ?_
    refine g_lload lk_76_42 rfl ?_
    refine g_aload_n lk_76_44 rfl ?_
    refine m_getfield (u := []) (M := M) lk_76_45 rfl (lay.on (by decide) rfl) (v := ((cn : Nat) : Int)) w3 ?_
    refine g_aload_n lk_76_48 rfl ?_
    refine g_getfield lk_76_49 rfl (lay.on (by decide) rfl) (v := ((44 : Nat) : Int)) (lay.rf rfl) ?_
    refine g_iload_n lk_76_52 rfl ?_
    refine g_iload_n lk_76_53 rfl ?_
    refine g_iload_n lk_76_54 rfl ?_
    refine g_ixor lk_76_55 ?_
    refine g_top (z := (pm_xor (cs : Int) (lo : Int))) (z' := (re : Int)) (q5) ?_
    refine g_virtual (p := 44) (Qc := _) lk_76_56 rfl (Nat.le_of_ble_eq_true rfl) rfl rfl (lay.on (by decide) rfl) (Nat.le_of_ble_eq_true rfl) (Nat.le_of_ble_eq_true rfl) (Nat.zero_le _) (Nat.zero_le _) (c_Areas_numberOf lay hT hM (by omega) (by omega)) ?_
    rintro _ N6 ⟨rfl, hN6⟩
    rw [hN6]
    show Wp _ 76 59 [(2, ((51 : Nat) : Int)), (0, (p : Int)), (0, (cs : Int)), (0, (lo : Int)), (0, (x : Int)), (1, 0), (9, 0)] [(0, (num T p re : Int)), (2, ((cn : Nat) : Int)), (1, 0)] M _ _ _
    refine g_laload lk_76_59 hay (by omega) (v := (ta T p re : Int)) rd ?_
    refine g_ladd lk_76_60 ?_
    refine g_lreturn lk_76_61 ?_
    refine ⟨?_, rfl⟩
    rw [tl, t1, if_neg (by omega)]
    congr 2
