/-! ===== cover: the class ===== -/
def FcAt (M : pm_M) (T : Tab) (v : Nat) : Prop := pm_ct M 28 6 = ((FL T v).length : Int) ∧ ∀ k, k < (FL T v).length → pm_ct M 33 k = ((wm T v ((FL T v).getD k 0) : Nat) : Int)
theorem FuAt.fc {M : pm_M} {T : Tab} {v : Nat} (h : FuAt M T v (2 ^ tR T - 1)) : FcAt M T v := ⟨h.1, fun k hk => (h.2 k hk).2.2⟩
theorem FL_64 {T : Tab} (hT : TabOK T) (v : Nat) : (FL T v).length ≤ 63 := by
  have h := fL_len T v (2 ^ tR T - 1)
  have := tR_64 hT
  unfold FL; omega
theorem wm_36 {T : Tab} (hT : TabOK T) (v x : Nat) : wm T v x < 68719476736 := wL_36 hT _ _ _
def mnw (T : Tab) (v m : Nat) : Nat → Nat
  | 0 => 0
  | k + 1 => max (mnw T v m k) (popL (wm T v ((FL T v).getD k 0) &&& m))
theorem popL_le (x : Nat) : popL x ≤ 36 := by
  unfold popL
  exact Nat.le_trans (sm_le (g := fun _ => 1) (fun j _ => bt_1 x j)) (by decide)
theorem mnw_36 (T : Tab) (v m : Nat) : ∀ k, mnw T v m k ≤ 36
  | 0 => Nat.zero_le _
  | k + 1 => Nat.max_le.mpr ⟨mnw_36 T v m k, popL_le _⟩
theorem mnw_le (T : Tab) (v m : Nat) : ∀ k j, j < k → popL (wm T v ((FL T v).getD j 0) &&& m) ≤ mnw T v m k
  | k + 1, j, h => by
    by_cases e : j = k
    · subst e; exact Nat.le_max_right _ _
    · exact Nat.le_trans (mnw_le T v m k j (by omega)) (Nat.le_max_left _ _)
theorem c_Patches_mostNew {d mc ms : Nat} {M : pm_M} (lay : Lay M) {T : Tab} (hT : TabOK T) {v : Nat} (hF : FcAt M T v) {m : Nat} (hm : m < 68719476736) :
    pm_E (d + 1) 51 [(2, ((28 : Nat) : Int)), (1, (m : Int))] M mc ms (fun ρ M' => ρ = some (0, (mnw T v m (FL T v).length : Int)) ∧ M' = M) := by
  obtain ⟨Q, hQ⟩ : ∃ Q : pm_Q, Q = (fun ρ M' => ρ = some (0, (mnw T v m (FL T v).length : Int)) ∧ M' = M) := ⟨_, rfl⟩
  rw [← hQ]
  have L63 := FL_64 hT v
  obtain ⟨c6, cw⟩ := hF
  obtain ⟨L, hL⟩ : ∃ L, L = (FL T v).length := ⟨_, rfl⟩
  rw [← hL] at c6 cw L63 hQ
  have loop : ∀ (n k : Nat), k + n = L → Wp (d + 1) 51 5 [(2, ((28 : Nat) : Int)), (1, (m : Int)), (9, 0), (0, (mnw T v m k : Int)), (0, (k : Int))] [] M mc ms Q := by
    intro n
    induction n with
    | zero =>
      intro k hk
      refine g_iload lk_51_5 rfl ?_
      refine g_aload_n lk_51_7 rfl ?_
      refine m_getfield (u := []) (M := M) lk_51_8 rfl (lay.on (by decide) rfl) (v := (L : Int)) c6 ?_
      refine g_icmp (t := 37) lk_51_11 rfl (by first | (unfold pm_inI; omega) | exact pm_and_in _ _ | exact pm_shr_in _ _ | exact pm_or_in _ _ | exact pm_xor_in _ _ | exact pm_shl_in _ _ | exact pm_cmp_in _ _ | exact pm_b8_in _ | (unfold pm_inI; split <;> omega)) (by first | (unfold pm_inI; omega) | exact pm_and_in _ _ | exact pm_shr_in _ _ | exact pm_or_in _ _ | exact pm_xor_in _ _ | exact pm_shl_in _ _ | exact pm_cmp_in _ _ | exact pm_b8_in _ | (unfold pm_inI; split <;> omega)) (fun h1 => ?_) (fun h1 => ?_)
      · replace h1 : (L : Int) ≤ (k : Int) := h1
        refine g_iload_n lk_51_37 rfl ?_
        refine g_ireturn lk_51_38 (fun h => absurd h (by decide)) ?_
        rw [hQ, show k = L by omega]
        exact ⟨rfl, rfl⟩
      · replace h1 : ¬ ((L : Int) ≤ (k : Int)) := h1
        omega
    | succ n ih =>
      intro k hk
      obtain ⟨w, hw⟩ : ∃ w, w = wm T v ((FL T v).getD k 0) := ⟨_, rfl⟩
      have w36 : w < 68719476736 := by rw [hw]; exact wm_36 hT _ _
      have v33 : pm_ct M 33 k = (w : Int) := by rw [hw]; exact cw k (by omega)
      have e1 : pm_andL (w : Int) (m : Int) = ((w &&& m : Nat) : Int) := pm_andL_n (by omega)
      have wm36 : w &&& m < 68719476736 := Nat.lt_of_le_of_lt Nat.and_le_left w36
      have e2 : max ((mnw T v m k : Nat) : Int) ((popL (w &&& m) : Nat) : Int) = ((mnw T v m (k + 1) : Nat) : Int) := by
        show _ = ((max (mnw T v m k) (popL (wm T v ((FL T v).getD k 0) &&& m)) : Nat) : Int)
        rw [← hw]; omega
      have b1 := mnw_36 T v m k
      have b2 := popL_le (w &&& m)
      refine g_iload lk_51_5 rfl ?_
      refine g_aload_n lk_51_7 rfl ?_
      refine m_getfield (u := []) (M := M) lk_51_8 rfl (lay.on (by decide) rfl) (v := (L : Int)) c6 ?_
      refine g_icmp (t := 37) lk_51_11 rfl (by first | (unfold pm_inI; omega) | exact pm_and_in _ _ | exact pm_shr_in _ _ | exact pm_or_in _ _ | exact pm_xor_in _ _ | exact pm_shl_in _ _ | exact pm_cmp_in _ _ | exact pm_b8_in _ | (unfold pm_inI; split <;> omega)) (by first | (unfold pm_inI; omega) | exact pm_and_in _ _ | exact pm_shr_in _ _ | exact pm_or_in _ _ | exact pm_xor_in _ _ | exact pm_shl_in _ _ | exact pm_cmp_in _ _ | exact pm_b8_in _ | (unfold pm_inI; split <;> omega)) (fun h1 => ?_) (fun h1 => ?_)
      · replace h1 : (L : Int) ≤ (k : Int) := h1
        refine g_iload_n lk_51_37 rfl ?_
        refine g_ireturn lk_51_38 (fun h => absurd h (by decide)) ?_
        omega
      · replace h1 : ¬ ((L : Int) ≤ (k : Int)) := h1
        refine g_iload_n lk_51_14 rfl ?_
        refine g_aload_n lk_51_15 rfl ?_
        refine g_getfield lk_51_16 rfl (lay.on (by decide) rfl) (v := ((33 : Nat) : Int)) (lay.rf rfl) ?_
        refine g_iload lk_51_19 rfl ?_
        refine m_laload (u := []) (M := M) lk_51_21 (lay.ay (by decide) rfl) (by omega) (j := k) (by omega) (v := (w : Int)) v33 ?_
        refine g_lload_n lk_51_22 rfl ?_
        refine g_land lk_51_23 ?_
        refine g_top (z := (pm_andL (w : Int) (m : Int))) (z' := ((w &&& m : Nat) : Int)) (e1) ?_
        refine g_static (Qc := _) lk_51_24 (by decide) rfl (Nat.le_of_ble_eq_true rfl) rfl rfl (Nat.le_of_ble_eq_true rfl) (Nat.le_of_ble_eq_true rfl) (Nat.zero_le _) (Nat.zero_le _) (c_Long_bitCount wm36) ?_
        rintro _ N2 ⟨rfl, hN2⟩
        rw [hN2]
        show Wp _ 51 27 [(2, ((28 : Nat) : Int)), (1, (m : Int)), (9, 0), (0, (mnw T v m k : Int)), (0, (k : Int))] [(0, (popL (w &&& m) : Int)), (0, (mnw T v m k : Int))] M _ _ _
        refine g_mmax lk_51_27 (by first | (unfold pm_inI; omega) | exact pm_and_in _ _ | exact pm_shr_in _ _ | exact pm_or_in _ _ | exact pm_xor_in _ _ | exact pm_shl_in _ _ | exact pm_cmp_in _ _ | exact pm_b8_in _ | (unfold pm_inI; split <;> omega)) (by first | (unfold pm_inI; omega) | exact pm_and_in _ _ | exact pm_shr_in _ _ | exact pm_or_in _ _ | exact pm_xor_in _ _ | exact pm_shl_in _ _ | exact pm_cmp_in _ _ | exact pm_b8_in _ | (unfold pm_inI; split <;> omega)) (Nat.le_of_ble_eq_true rfl) ?_
        refine g_top (z := (max (mnw T v m k : Int) (popL (w &&& m) : Int))) (z' := (mnw T v m (k + 1) : Int)) (e2) ?_
        refine g_istore_n (ls' := [(2, ((28 : Nat) : Int)), (1, (m : Int)), (9, 0), (0, (mnw T v m (k + 1) : Int)), (0, (k : Int))]) lk_51_30 rfl rfl ?_
        refine g_iinc (ls' := [(2, ((28 : Nat) : Int)), (1, (m : Int)), (9, 0), (0, (mnw T v m (k + 1) : Int)), (0, ((k : Int) + 1))]) lk_51_31 rfl rfl rfl ?_
        refine g_goto (t := 5) lk_51_34 rfl ?_
        exact ih (k + 1) (by omega)
  show Wp (d + 1) 51 0 [(2, ((28 : Nat) : Int)), (1, (m : Int)), (9, 0), (9, 0), (9, 0)] [] M mc ms Q
  refine g_iconst lk_51_0 ?_
  refine g_istore_n (ls' := [(2, ((28 : Nat) : Int)), (1, (m : Int)), (9, 0), (0, 0), (9, 0)]) lk_51_1 rfl rfl ?_
  refine g_iconst lk_51_2 ?_
  refine g_istore (ls' := [(2, ((28 : Nat) : Int)), (1, (m : Int)), (9, 0), (0, 0), (0, 0)]) lk_51_3 rfl rfl ?_
  exact loop L 0 (by omega)
theorem p2_and {m i : Nat} : 2 ^ i &&& m = if m.testBit i then 2 ^ i else 0 := by
  apply Nat.eq_of_testBit_eq
  intro j
  rw [Nat.testBit_and, Nat.testBit_two_pow]
  by_cases h : i = j
  · subst h
    cases q : m.testBit i with
    | false => simp
    | true => simp
  · split
    · rw [Nat.testBit_two_pow]; simp [h]
    · rw [Nat.zero_testBit]; simp [h]
set_option maxHeartbeats 4000000 in
theorem c_Patches_rarest {d mc ms : Nat} {M : pm_M} (lay : Lay M) {T : Tab} (hT : TabOK T) {v : Nat} (hF : FcAt M T v) {m : Nat} (hm : m < 68719476736) (h0 : m ≠ 0) :
    pm_E d 52 [(2, ((28 : Nat) : Int)), (1, (m : Int))] M mc ms (fun ρ M' => (∃ i, i < 36 ∧ m.testBit i = true ∧ ρ = some (1, ((2 ^ i : Nat) : Int))) ∧ M' = M) := by
  obtain ⟨Q, hQ⟩ : ∃ Q : pm_Q, Q = (fun ρ M' => (∃ i, i < 36 ∧ m.testBit i = true ∧ ρ = some (1, ((2 ^ i : Nat) : Int))) ∧ M' = M) := ⟨_, rfl⟩
  rw [← hQ]
  have L63 := FL_64 hT v
  obtain ⟨c6, cw⟩ := hF
  obtain ⟨L, hL⟩ : ∃ L, L = (FL T v).length := ⟨_, rfl⟩
  rw [← hL] at c6 cw L63
  have bit : ∃ i, i < 36 ∧ m.testBit i = true := by
    refine Classical.byContradiction (fun q => h0 (popL_0 hm ?_))
    unfold popL
    rw [sm_congr (g := fun _ => 0) (fun i hi => bt_off.mpr (Bool.eq_false_iff.mpr (fun c => q ⟨i, hi, c⟩))), sm_zero]
  -- what is held: nothing seen yet, or a cell
  have inner : ∀ (n j a i : Nat) (z : Int) (f : Nat) (N : pm_M), N = M → j + n = L → a ≤ j → i < 36 → m.testBit i = true → f ≤ 1000000 →
      (∀ (z' : Int) (f' : Nat) (v9 v10 : pm_V), f' < 64 → z' = ((2 ^ i : Nat) : Int) → Wp d 52 94 [(2, ((28 : Nat) : Int)), (1, (m : Int)), (9, 0), (1, z'), (9, 0), (0, (f' : Int)), (0, (i : Int)), (1, ((2 ^ i : Nat) : Int)), (9, 0), v9, v10] [] M mc ms Q) →
      (∀ (v9 v10 : pm_V), f < 64 → Wp d 52 94 [(2, ((28 : Nat) : Int)), (1, (m : Int)), (9, 0), (1, z), (9, 0), (0, (f : Int)), (0, (i : Int)), (1, ((2 ^ i : Nat) : Int)), (9, 0), v9, v10] [] M mc ms Q) →
      Wp d 52 40 [(2, ((28 : Nat) : Int)), (1, (m : Int)), (9, 0), (1, z), (9, 0), (0, (f : Int)), (0, (i : Int)), (1, ((2 ^ i : Nat) : Int)), (9, 0), (0, (a : Int)), (0, (j : Int))] [] N mc ms Q := by
    intro n
    induction n with
    | zero =>
      intro j a i z f N hN hj ha hi hb hf k1 k2
      subst hN
      refine g_iload lk_52_40 rfl ?_
      refine g_aload_n lk_52_42 rfl ?_
      refine m_getfield (u := []) (M := N) lk_52_43 rfl (lay.on (by decide) rfl) (v := (L : Int)) c6 ?_
      refine g_icmp (t := 80) lk_52_46 rfl (by first | (unfold pm_inI; omega) | exact pm_and_in _ _ | exact pm_shr_in _ _ | exact pm_or_in _ _ | exact pm_xor_in _ _ | exact pm_shl_in _ _ | exact pm_cmp_in _ _ | exact pm_b8_in _ | (unfold pm_inI; split <;> omega)) (by first | (unfold pm_inI; omega) | exact pm_and_in _ _ | exact pm_shr_in _ _ | exact pm_or_in _ _ | exact pm_xor_in _ _ | exact pm_shl_in _ _ | exact pm_cmp_in _ _ | exact pm_b8_in _ | (unfold pm_inI; split <;> omega)) (fun h1 => ?_) (fun h1 => ?_)
      · replace h1 : (L : Int) ≤ (j : Int) := h1
        refine g_iload lk_52_80 rfl ?_
        refine g_iload lk_52_82 rfl ?_
        refine g_icmp (t := 94) lk_52_84 rfl (by first | (unfold pm_inI; omega) | exact pm_and_in _ _ | exact pm_shr_in _ _ | exact pm_or_in _ _ | exact pm_xor_in _ _ | exact pm_shl_in _ _ | exact pm_cmp_in _ _ | exact pm_b8_in _ | (unfold pm_inI; split <;> omega)) (by first | (unfold pm_inI; omega) | exact pm_and_in _ _ | exact pm_shr_in _ _ | exact pm_or_in _ _ | exact pm_xor_in _ _ | exact pm_shl_in _ _ | exact pm_cmp_in _ _ | exact pm_b8_in _ | (unfold pm_inI; split <;> omega)) (fun h2 => ?_) (fun h2 => ?_)
        · replace h2 : (f : Int) ≤ (a : Int) := h2
          exact k2 _ _ (by omega)
        · replace h2 : ¬ ((f : Int) ≤ (a : Int)) := h2
          refine g_iload lk_52_87 rfl ?_
          refine g_istore (ls' := [(2, ((28 : Nat) : Int)), (1, (m : Int)), (9, 0), (1, z), (9, 0), (0, (a : Int)), (0, (i : Int)), (1, ((2 ^ i : Nat) : Int)), (9, 0), (0, (a : Int)), (0, (j : Int))]) lk_52_89 rfl rfl ?_
          refine g_lload lk_52_91 rfl ?_
          refine g_lstore_n (ls' := [(2, ((28 : Nat) : Int)), (1, (m : Int)), (9, 0), (1, ((2 ^ i : Nat) : Int)), (9, 0), (0, (a : Int)), (0, (i : Int)), (1, ((2 ^ i : Nat) : Int)), (9, 0), (0, (a : Int)), (0, (j : Int))]) lk_52_93 rfl rfl ?_
          exact k1 _ a _ _ (by omega) rfl
      · replace h1 : ¬ ((L : Int) ≤ (j : Int)) := h1
        omega
    | succ n ih =>
      intro j a i z f N hN hj ha hi hb hf k1 k2
      subst hN
      obtain ⟨w, hw⟩ : ∃ w, w = wm T v ((FL T v).getD j 0) := ⟨_, rfl⟩
      have w36 : w < 68719476736 := by rw [hw]; exact wm_36 hT _ _
      have v33 : pm_ct N 33 j = (w : Int) := by rw [hw]; exact cw j (by omega)
      obtain ⟨u, hu⟩ : ∃ u, u = w &&& 2 ^ i := ⟨_, rfl⟩
      have u36 : u < 68719476736 := by rw [hu]; exact Nat.lt_of_le_of_lt Nat.and_le_left w36
      have e1 : pm_andL (w : Int) ((2 ^ i : Nat) : Int) = (u : Int) := by rw [hu]; exact pm_andL_n (by omega)
      have e2 := pm_cmp0 (x := u) (by omega)
      refine g_iload lk_52_40 rfl ?_
      refine g_aload_n lk_52_42 rfl ?_
      refine m_getfield (u := []) (M := N) lk_52_43 rfl (lay.on (by decide) rfl) (v := (L : Int)) c6 ?_
      refine g_icmp (t := 80) lk_52_46 rfl (by first | (unfold pm_inI; omega) | exact pm_and_in _ _ | exact pm_shr_in _ _ | exact pm_or_in _ _ | exact pm_xor_in _ _ | exact pm_shl_in _ _ | exact pm_cmp_in _ _ | exact pm_b8_in _ | (unfold pm_inI; split <;> omega)) (by first | (unfold pm_inI; omega) | exact pm_and_in _ _ | exact pm_shr_in _ _ | exact pm_or_in _ _ | exact pm_xor_in _ _ | exact pm_shl_in _ _ | exact pm_cmp_in _ _ | exact pm_b8_in _ | (unfold pm_inI; split <;> omega)) (fun h1 => ?_) (fun h1 => ?_)
      · replace h1 : (L : Int) ≤ (j : Int) := h1
        omega
      · replace h1 : ¬ ((L : Int) ≤ (j : Int)) := h1
        refine g_iload lk_52_49 rfl ?_
        refine g_aload_n lk_52_51 rfl ?_
        refine g_getfield lk_52_52 rfl (lay.on (by decide) rfl) (v := ((33 : Nat) : Int)) (lay.rf rfl) ?_
        refine g_iload lk_52_55 rfl ?_
        refine m_laload (u := []) (M := N) lk_52_57 (lay.ay (by decide) rfl) (by omega) (j := j) (by omega) (v := (w : Int)) v33 ?_
        refine g_lload lk_52_58 rfl ?_
        refine g_land lk_52_60 ?_
        refine g_top (z := (pm_andL (w : Int) ((2 ^ i : Nat) : Int))) (z' := (u : Int)) (e1) ?_
        refine g_lconst lk_52_61 ?_
        refine g_lcmp lk_52_62 ?_
        refine g_top (z := (pm_cmp (pm_wL (u : Int)) (pm_wL 0))) (z' := (if u = 0 then (0 : Int) else 1)) (e2) ?_
        refine g_if (t := 70) lk_52_63 rfl (by first | (unfold pm_inI; omega) | exact pm_and_in _ _ | exact pm_shr_in _ _ | exact pm_or_in _ _ | exact pm_xor_in _ _ | exact pm_shl_in _ _ | exact pm_cmp_in _ _ | exact pm_b8_in _ | (unfold pm_inI; split <;> omega)) (fun h2 => ?_) (fun h2 => ?_)
        · replace h2 : (if u = 0 then (0 : Int) else 1) = 0 := h2
          refine g_iconst lk_52_70 ?_
          refine g_iadd lk_52_71 ?_
          refine g_istore (ls' := [(2, ((28 : Nat) : Int)), (1, (m : Int)), (9, 0), (1, z), (9, 0), (0, (f : Int)), (0, (i : Int)), (1, ((2 ^ i : Nat) : Int)), (9, 0), (0, ((a : Int) + 0)), (0, (j : Int))]) lk_52_72 rfl rfl ?_
          refine g_iinc (ls' := [(2, ((28 : Nat) : Int)), (1, (m : Int)), (9, 0), (1, z), (9, 0), (0, (f : Int)), (0, (i : Int)), (1, ((2 ^ i : Nat) : Int)), (9, 0), (0, ((a : Int) + 0)), (0, ((j : Int) + 1))]) lk_52_74 rfl rfl rfl ?_
          refine g_goto (t := 40) lk_52_77 rfl ?_
          have := ih (j + 1) a i z f N rfl (by omega) (by omega) hi hb hf k1 k2
          rw [Int.add_zero]
          exact this
        · replace h2 : ¬ ((if u = 0 then (0 : Int) else 1) = 0) := h2
          refine g_iconst lk_52_66 ?_
          refine g_goto (t := 71) lk_52_67 rfl ?_
          refine g_iadd lk_52_71 ?_
          refine g_istore (ls' := [(2, ((28 : Nat) : Int)), (1, (m : Int)), (9, 0), (1, z), (9, 0), (0, (f : Int)), (0, (i : Int)), (1, ((2 ^ i : Nat) : Int)), (9, 0), (0, ((a : Int) + 1)), (0, (j : Int))]) lk_52_72 rfl rfl ?_
          refine g_iinc (ls' := [(2, ((28 : Nat) : Int)), (1, (m : Int)), (9, 0), (1, z), (9, 0), (0, (f : Int)), (0, (i : Int)), (1, ((2 ^ i : Nat) : Int)), (9, 0), (0, ((a : Int) + 1)), (0, ((j : Int) + 1))]) lk_52_74 rfl rfl rfl ?_
          refine g_goto (t := 40) lk_52_77 rfl ?_
          exact ih (j + 1) (a + 1) i z f N rfl (by omega) (by omega) hi hb hf k1 k2
  have outer : ∀ (n i : Nat) (z : Int) (f : Nat) (v7 v8 v9 v10 : pm_V), i + n = 36 → (f = 1000000 ∧ (∀ j, j < i → m.testBit j = false) ∨ f < 64 ∧ ∃ j, j < 36 ∧ m.testBit j = true ∧ z = ((2 ^ j : Nat) : Int)) →
      Wp d 52 12 [(2, ((28 : Nat) : Int)), (1, (m : Int)), (9, 0), (1, z), (9, 0), (0, (f : Int)), (0, (i : Int)), v7, v8, v9, v10] [] M mc ms Q := by
    intro n
    induction n with
    | zero =>
      intro i z f v7 v8 v9 v10 hi hz
      have f6 : f ≤ 1000000 := by rcases hz with q | q <;> omega
      refine g_iload lk_52_12 rfl ?_
      refine g_bipush lk_52_14 ?_
      refine g_icmp (t := 100) lk_52_16 rfl (by first | (unfold pm_inI; omega) | exact pm_and_in _ _ | exact pm_shr_in _ _ | exact pm_or_in _ _ | exact pm_xor_in _ _ | exact pm_shl_in _ _ | exact pm_cmp_in _ _ | exact pm_b8_in _ | (unfold pm_inI; split <;> omega)) (by first | (unfold pm_inI; omega) | exact pm_and_in _ _ | exact pm_shr_in _ _ | exact pm_or_in _ _ | exact pm_xor_in _ _ | exact pm_shl_in _ _ | exact pm_cmp_in _ _ | exact pm_b8_in _ | (unfold pm_inI; split <;> omega)) (fun h1 => ?_) (fun h1 => ?_)
      · replace h1 : 36 ≤ (i : Int) := h1
        refine g_lload_n lk_52_100 rfl ?_
        refine g_lreturn lk_52_101 ?_
        rw [hQ]
        refine ⟨?_, rfl⟩
        rcases hz with ⟨_, q⟩ | ⟨_, j, q1, q2, q3⟩
        · obtain ⟨j, b1, b2⟩ := bit
          rw [q j (by omega)] at b2; cases b2
        · exact ⟨j, q1, q2, by rw [q3]⟩
      · replace h1 : ¬ (36 ≤ (i : Int)) := h1
        omega
    | succ n ih =>
      intro i z f v7 v8 v9 v10 hi hz
      have f6 : f ≤ 1000000 := by rcases hz with q | q <;> omega
      have a2 : 1 * 2 ^ i < 9223372036854775808 := by have := p36 (n := i) (by omega); omega
      have a3 : pm_shlL 1 (i : Int) = ((2 ^ i : Nat) : Int) := by have := pm_shlL_n (a := 1) (k := i) (by omega) a2; rw [Nat.one_mul] at this; exact this
      have a4 : pm_andL ((2 ^ i : Nat) : Int) (m : Int) = ((2 ^ i &&& m : Nat) : Int) := pm_andL_n (by omega)
      have a1 : 1 ≤ 2 ^ i := Nat.one_le_two_pow
      obtain ⟨u, hu⟩ : ∃ u, u = 2 ^ i &&& m := ⟨_, rfl⟩
      rw [← hu] at a4
      have hu2 := hu
      rw [p2_and] at hu2
      have u36 : u < 68719476736 := by rw [hu]; exact Nat.lt_of_le_of_lt Nat.and_le_right hm
      have e2 := pm_cmp0 (x := u) (by omega)
      obtain ⟨p, hp⟩ : ∃ p, p = 2 ^ i := ⟨_, rfl⟩
      have next : ∀ (z' : Int) (f' : Nat) (v7 v8 v9 v10 : pm_V), (f' = 1000000 ∧ (∀ j, j < i + 1 → m.testBit j = false) ∨ f' < 64 ∧ ∃ j, j < 36 ∧ m.testBit j = true ∧ z' = ((2 ^ j : Nat) : Int)) → Wp d 52 94 [(2, ((28 : Nat) : Int)), (1, (m : Int)), (9, 0), (1, z'), (9, 0), (0, (f' : Int)), (0, (i : Int)), v7, v8, v9, v10] [] M mc ms Q := by
        intro z' f' v7 v8 v9 v10 h'
        refine g_iinc (ls' := [(2, ((28 : Nat) : Int)), (1, (m : Int)), (9, 0), (1, z'), (9, 0), (0, (f' : Int)), (0, ((i : Int) + 1)), v7, v8, v9, v10]) lk_52_94 rfl rfl rfl ?_
        refine g_goto (t := 12) lk_52_97 rfl ?_
        exact ih (i + 1) z' f' _ _ _ _ (by omega) h'
      refine g_iload lk_52_12 rfl ?_
      refine g_bipush lk_52_14 ?_
      refine g_icmp (t := 100) lk_52_16 rfl (by first | (unfold pm_inI; omega) | exact pm_and_in _ _ | exact pm_shr_in _ _ | exact pm_or_in _ _ | exact pm_xor_in _ _ | exact pm_shl_in _ _ | exact pm_cmp_in _ _ | exact pm_b8_in _ | (unfold pm_inI; split <;> omega)) (by first | (unfold pm_inI; omega) | exact pm_and_in _ _ | exact pm_shr_in _ _ | exact pm_or_in _ _ | exact pm_xor_in _ _ | exact pm_shl_in _ _ | exact pm_cmp_in _ _ | exact pm_b8_in _ | (unfold pm_inI; split <;> omega)) (fun h1 => ?_) (fun h1 => ?_)
      · replace h1 : 36 ≤ (i : Int) := h1
        omega
      · replace h1 : ¬ (36 ≤ (i : Int)) := h1
        refine g_lconst lk_52_19 ?_
        refine g_iload lk_52_20 rfl ?_
        refine g_lshl lk_52_22 ?_
        refine g_top (z := (pm_shlL 1 (i : Int))) (z' := ((2 ^ i : Nat) : Int)) (a3) ?_
        refine g_lload_n lk_52_23 rfl ?_
        refine g_land lk_52_24 ?_
        refine g_top (z := (pm_andL ((2 ^ i : Nat) : Int) (m : Int))) (z' := (u : Int)) (a4) ?_
        refine g_lstore (ls' := [(2, ((28 : Nat) : Int)), (1, (m : Int)), (9, 0), (1, z), (9, 0), (0, (f : Int)), (0, (i : Int)), (1, (u : Int)), (9, 0), v9, v10]) lk_52_25 rfl rfl ?_
        refine g_lload lk_52_27 rfl ?_
        refine g_lconst lk_52_29 ?_
        refine g_lcmp lk_52_30 ?_
        refine g_top (z := (pm_cmp (pm_wL (u : Int)) (pm_wL 0))) (z' := (if u = 0 then (0 : Int) else 1)) (e2) ?_
        refine g_if (t := 94) lk_52_31 rfl (by first | (unfold pm_inI; omega) | exact pm_and_in _ _ | exact pm_shr_in _ _ | exact pm_or_in _ _ | exact pm_xor_in _ _ | exact pm_shl_in _ _ | exact pm_cmp_in _ _ | exact pm_b8_in _ | (unfold pm_inI; split <;> omega)) (fun h2 => ?_) (fun h2 => ?_)
        · replace h2 : (if u = 0 then (0 : Int) else 1) = 0 := h2
          refine next z f _ _ _ _ ?_
          have b0 : m.testBit i = false := by
            cases q : m.testBit i with
            | false => rfl
            | true => rw [q, if_pos rfl] at hu2; rw [if_neg (by omega)] at h2; cases h2
          rcases hz with ⟨q1, q2⟩ | q
          · refine Or.inl ⟨q1, fun j hj => ?_⟩
            by_cases e : j = i
            · rw [e]; exact b0
            · exact q2 j (by omega)
          · exact Or.inr q
        · replace h2 : ¬ ((if u = 0 then (0 : Int) else 1) = 0) := h2
          refine g_iconst lk_52_34 ?_
          refine g_istore (ls' := [(2, ((28 : Nat) : Int)), (1, (m : Int)), (9, 0), (1, z), (9, 0), (0, (f : Int)), (0, (i : Int)), (1, (u : Int)), (9, 0), (0, 0), v10]) lk_52_35 rfl rfl ?_
          refine g_iconst lk_52_37 ?_
          refine g_istore (ls' := [(2, ((28 : Nat) : Int)), (1, (m : Int)), (9, 0), (1, z), (9, 0), (0, (f : Int)), (0, (i : Int)), (1, (u : Int)), (9, 0), (0, 0), (0, 0)]) lk_52_38 rfl rfl ?_
          have b1 : m.testBit i = true := by
            cases q : m.testBit i with
            | true => rfl
            | false => rw [q] at hu2; rw [hu2] at h2; exact absurd rfl h2
          rw [b1, if_pos rfl] at hu2
          rw [hu2]
          exact inner L 0 0 i z f M rfl (by omega) (Nat.le_refl _) (by omega) b1 f6 (fun z' f' v9 v10 q1 q2 => next z' f' _ _ _ _ (Or.inr ⟨q1, i, by omega, b1, q2⟩)) (fun v9 v10 q1 => next z f _ _ _ _ (Or.inr (by rcases hz with q | q; omega; exact q)))
  show Wp d 52 0 [(2, ((28 : Nat) : Int)), (1, (m : Int)), (9, 0), (9, 0), (9, 0), (9, 0), (9, 0), (9, 0), (9, 0), (9, 0), (9, 0)] [] M mc ms Q
  refine g_lload_n lk_52_0 rfl ?_
  refine g_lload_n lk_52_1 rfl ?_
  refine g_lneg lk_52_2 ?_
  refine g_land lk_52_3 ?_
  refine g_lstore_n (ls' := [(2, ((28 : Nat) : Int)), (1, (m : Int)), (9, 0), (1, (pm_andL (m : Int) (-(m : Int)))), (9, 0), (9, 0), (9, 0), (9, 0), (9, 0), (9, 0), (9, 0)]) lk_52_4 rfl rfl ?_
  refine g_ldc lk_52_5 ?_
  refine g_istore (ls' := [(2, ((28 : Nat) : Int)), (1, (m : Int)), (9, 0), (1, (pm_andL (m : Int) (-(m : Int)))), (9, 0), (0, 1000000), (9, 0), (9, 0), (9, 0), (9, 0), (9, 0)]) lk_52_7 rfl rfl ?_
  refine g_iconst lk_52_9 ?_
  refine g_istore (ls' := [(2, ((28 : Nat) : Int)), (1, (m : Int)), (9, 0), (1, (pm_andL (m : Int) (-(m : Int)))), (9, 0), (0, 1000000), (0, 0), (9, 0), (9, 0), (9, 0), (9, 0)]) lk_52_10 rfl rfl ?_
  exact outer 36 0 _ 1000000 _ _ _ _ rfl (Or.inl ⟨rfl, fun j hj => absurd hj (Nat.not_lt_zero j)⟩)
set_option maxHeartbeats 4000000 in
theorem c_Patches_isCovered {T : Tab} (hT : TabOK T) {v : Nat} : ∀ (n d mc ms m : Nat) (M : pm_M), n ≤ 6 → Lay M → FcAt M T v → m < 68719476736 → (∀ i, m.testBit i = true → Cv T v i) →
    pm_E (d + n + 2) 50 [(2, ((28 : Nat) : Int)), (1, (m : Int)), (0, (n : Int))] M mc ms (fun ρ M' => (∃ b : Nat, (b = 1 ∧ CV T v n (fun i => m.testBit i = true) ∨ b = 0 ∧ ¬ CV T v n (fun i => m.testBit i = true)) ∧ ρ = some (0, (b : Int))) ∧ M' = M) := by
  intro n
  induction n with
  | zero =>
    intro d mc ms m M h6 lay hF hm hcv
    have e0 := pm_cmp0 (x := m) (by omega)
    show Wp (d + 0 + 2) 50 0 [(2, ((28 : Nat) : Int)), (1, (m : Int)), (9, 0), (0, 0), (9, 0), (9, 0), (9, 0)] [] M mc ms _
    refine g_lload_n lk_50_0 rfl ?_
    refine g_lconst lk_50_1 ?_
    refine g_lcmp lk_50_2 ?_
    refine g_top (z := (pm_cmp (pm_wL (m : Int)) (pm_wL 0))) (z' := (if m = 0 then (0 : Int) else 1)) (e0) ?_
    refine g_if (t := 8) lk_50_3 rfl (by first | (unfold pm_inI; omega) | exact pm_and_in _ _ | exact pm_shr_in _ _ | exact pm_or_in _ _ | exact pm_xor_in _ _ | exact pm_shl_in _ _ | exact pm_cmp_in _ _ | exact pm_b8_in _ | (unfold pm_inI; split <;> omega)) (fun h1 => ?_) (fun h1 => ?_)
    · replace h1 : ¬ (if m = 0 then (0 : Int) else 1) = 0 := h1
      refine g_iload_n lk_50_8 rfl ?_
      refine g_if (t := 32) lk_50_9 rfl (by first | (unfold pm_inI; omega) | exact pm_and_in _ _ | exact pm_shr_in _ _ | exact pm_or_in _ _ | exact pm_xor_in _ _ | exact pm_shl_in _ _ | exact pm_cmp_in _ _ | exact pm_b8_in _ | (unfold pm_inI; split <;> omega)) (fun _ => ?_) (fun h => absurd (show (0 : Int) ≤ (0 : Int) by omega) h)
      refine g_iconst lk_50_32 ?_
      refine g_ireturn lk_50_33 (fun _ => by omega) ?_
      refine ⟨⟨0, Or.inr ⟨rfl, fun q => ?_⟩, rfl⟩, rfl⟩
      have m0 : m = 0 := by
        apply Nat.eq_of_testBit_eq
        intro i
        rw [Nat.zero_testBit]
        exact Bool.eq_false_iff.mpr (CV_0 q i)
      rw [if_pos m0] at h1; exact h1 rfl
    · replace h1 : ¬ (¬ (if m = 0 then (0 : Int) else 1) = 0) := h1
      refine g_iconst lk_50_6 ?_
      refine g_ireturn lk_50_7 (fun _ => by omega) ?_
      refine ⟨⟨1, Or.inl ⟨rfl, CV_none (fun i => ?_)⟩, rfl⟩, rfl⟩
      have m0 : m = 0 := by
        refine Classical.byContradiction (fun q => h1 ?_)
        rw [if_neg q]; omega
      rw [m0, Nat.zero_testBit]; intro q; cases q
  | succ n ih =>
    intro d mc ms m M h6 lay hF hm hcv
    obtain ⟨Q, hQ⟩ : ∃ Q : pm_Q, Q = (fun ρ M' => (∃ b : Nat, (b = 1 ∧ CV T v (n + 1) (fun i => m.testBit i = true) ∨ b = 0 ∧ ¬ CV T v (n + 1) (fun i => m.testBit i = true)) ∧ ρ = some (0, (b : Int))) ∧ M' = M) := ⟨_, rfl⟩
    rw [← hQ]
    have e0 := pm_cmp0 (x := m) (by omega)
    have L63 := FL_64 hT v
    obtain ⟨c6, cw⟩ := id hF
    obtain ⟨L, hL⟩ : ∃ L, L = (FL T v).length := ⟨_, rfl⟩
    rw [← hL] at c6 cw L63
    have loop : ∀ (j k c : Nat), k + j = L → c < 36 → m.testBit c = true → (∀ q, q < k → inA T v ((FL T v).getD q 0) c = true → ¬ CV T v n (fun i => m.testBit i = true ∧ ¬ inA T v ((FL T v).getD q 0) i = true)) →
        Wp (d + (n + 1) + 2) 50 44 [(2, ((28 : Nat) : Int)), (1, (m : Int)), (9, 0), (0, ((n + 1 : Nat) : Int)), (1, ((2 ^ c : Nat) : Int)), (9, 0), (0, (k : Int))] [] M mc ms Q := by
      intro j
      induction j with
      | zero =>
        intro k c hk hc hb hno
        refine g_iload lk_50_44 rfl ?_
        refine g_aload_n lk_50_46 rfl ?_
        refine m_getfield (u := []) (M := M) lk_50_47 rfl (lay.on (by decide) rfl) (v := (L : Int)) c6 ?_
        refine g_icmp (t := 99) lk_50_50 rfl (by first | (unfold pm_inI; omega) | exact pm_and_in _ _ | exact pm_shr_in _ _ | exact pm_or_in _ _ | exact pm_xor_in _ _ | exact pm_shl_in _ _ | exact pm_cmp_in _ _ | exact pm_b8_in _ | (unfold pm_inI; split <;> omega)) (by first | (unfold pm_inI; omega) | exact pm_and_in _ _ | exact pm_shr_in _ _ | exact pm_or_in _ _ | exact pm_xor_in _ _ | exact pm_shl_in _ _ | exact pm_cmp_in _ _ | exact pm_b8_in _ | (unfold pm_inI; split <;> omega)) (fun h1 => ?_) (fun h1 => ?_)
        · replace h1 : (L : Int) ≤ (k : Int) := h1
          refine g_iconst lk_50_99 ?_
          refine g_ireturn lk_50_100 (fun _ => by omega) ?_
          rw [hQ]
          refine ⟨⟨0, Or.inr ⟨rfl, fun q => ?_⟩, rfl⟩, rfl⟩
          obtain ⟨x, x1, x2, x3⟩ := (CV_s hb).mp q
          obtain ⟨p, hp, ep⟩ := List.getElem_of_mem x1
          have g : (FL T v).getD p 0 = x := by rw [List.getD_eq_getElem?_getD, List.getElem?_eq_getElem hp, ep]; rfl
          exact hno p (by omega) (by rw [g]; exact x2) (by rw [g]; exact x3)
        · replace h1 : ¬ ((L : Int) ≤ (k : Int)) := h1
          omega
      | succ j ihj =>
        intro k c hk hc hb hno
        obtain ⟨x, hx⟩ : ∃ x, x = (FL T v).getD k 0 := ⟨_, rfl⟩
        have xF : x ∈ FL T v := by
          rw [hx, List.getD_eq_getElem?_getD, List.getElem?_eq_getElem (by omega)]
          exact List.getElem_mem _
        obtain ⟨w, hw⟩ : ∃ w, w = wm T v x := ⟨_, rfl⟩
        have w36 : w < 68719476736 := by rw [hw]; exact wm_36 hT _ _
        have v33 : pm_ct M 33 k = (w : Int) := by rw [hw, hx]; exact cw k (by omega)
        obtain ⟨u, hu⟩ : ∃ u, u = 2 ^ c &&& w := ⟨_, rfl⟩
        have hu2 := hu
        rw [p2_and] at hu2
        have u36 : u < 68719476736 := by rw [hu]; exact Nat.lt_of_le_of_lt Nat.and_le_right w36
        have e1 : pm_andL (w : Int) ((2 ^ c : Nat) : Int) = (u : Int) := by rw [hu, Nat.and_comm]; exact pm_andL_n (by omega)
        have e2 := pm_cmp0 (x := u) (by omega)
        have e3 : pm_andL (m : Int) (pm_xorL (w : Int) (-1)) = ((lD m w : Nat) : Int) := pm_andNL (by omega)
        have a1 : 1 ≤ 2 ^ c := Nat.one_le_two_pow
        obtain ⟨m2, hm2⟩ : ∃ m2, m2 = lD m w := ⟨_, rfl⟩
        rw [← hm2] at e3
        have m2b : ∀ i, m2.testBit i = true ↔ (m.testBit i = true ∧ ¬ inA T v x i = true) := fun i => by
          rw [hm2, lD_bit, Bool.and_eq_true, Bool.not_eq_true', hw]
          constructor
          · rintro ⟨q1, q2⟩
            exact ⟨q1, fun q3 => by rw [(wm_bit hT v x i).mpr ⟨hcv i q1, q3⟩] at q2; cases q2⟩
          · rintro ⟨q1, q2⟩
            refine ⟨q1, Bool.eq_false_iff.mpr (fun q3 => q2 ((wm_bit hT v x i).mp q3).2)⟩
        have m2s : (fun i => m2.testBit i = true) = (fun i => m.testBit i = true ∧ ¬ inA T v x i = true) := funext (fun i => propext (m2b i))
        have cu : inA T v x c = true ↔ ¬ u = 0 := by
          constructor
          · intro q
            rw [hu2, hw, if_pos ((wm_bit hT v x c).mpr ⟨hcv c hb, q⟩)]; omega
          · intro q
            cases hb2 : w.testBit c with
            | true => rw [hw] at hb2; exact ((wm_bit hT v x c).mp hb2).2
            | false => rw [hb2] at hu2; exact absurd hu2 q
        have next : ¬ (inA T v x c = true ∧ CV T v n (fun i => m.testBit i = true ∧ ¬ inA T v x i = true)) → Wp (d + (n + 1) + 2) 50 44 [(2, ((28 : Nat) : Int)), (1, (m : Int)), (9, 0), (0, ((n + 1 : Nat) : Int)), (1, ((2 ^ c : Nat) : Int)), (9, 0), (0, ((k + 1 : Nat) : Int))] [] M mc ms Q := fun hn =>
          ihj (k + 1) c (by omega) hc hb (fun q hq a b => by
            by_cases e : q = k
            · rw [e, ← hx] at a b; exact hn ⟨a, b⟩
            · exact hno q (by omega) a b)
        refine g_iload lk_50_44 rfl ?_
        refine g_aload_n lk_50_46 rfl ?_
        refine m_getfield (u := []) (M := M) lk_50_47 rfl (lay.on (by decide) rfl) (v := (L : Int)) c6 ?_
        refine g_icmp (t := 99) lk_50_50 rfl (by first | (unfold pm_inI; omega) | exact pm_and_in _ _ | exact pm_shr_in _ _ | exact pm_or_in _ _ | exact pm_xor_in _ _ | exact pm_shl_in _ _ | exact pm_cmp_in _ _ | exact pm_b8_in _ | (unfold pm_inI; split <;> omega)) (by first | (unfold pm_inI; omega) | exact pm_and_in _ _ | exact pm_shr_in _ _ | exact pm_or_in _ _ | exact pm_xor_in _ _ | exact pm_shl_in _ _ | exact pm_cmp_in _ _ | exact pm_b8_in _ | (unfold pm_inI; split <;> omega)) (fun h1 => ?_) (fun h1 => ?_)
        · replace h1 : (L : Int) ≤ (k : Int) := h1
          refine g_iconst lk_50_99 ?_
          refine g_ireturn lk_50_100 (fun _ => by omega) ?_
          omega
        · replace h1 : ¬ ((L : Int) ≤ (k : Int)) := h1
          refine g_aload_n lk_50_53 rfl ?_
          refine g_getfield lk_50_54 rfl (lay.on (by decide) rfl) (v := ((33 : Nat) : Int)) (lay.rf rfl) ?_
          refine g_iload lk_50_57 rfl ?_
          refine m_laload (u := []) (M := M) lk_50_59 (lay.ay (by decide) rfl) (by omega) (j := k) (by omega) (v := (w : Int)) v33 ?_
          refine g_lload lk_50_60 rfl ?_
          refine g_land lk_50_62 ?_
          refine g_top (z := (pm_andL (w : Int) ((2 ^ c : Nat) : Int))) (z' := (u : Int)) (e1) ?_
          refine g_lconst lk_50_63 ?_
          refine g_lcmp lk_50_64 ?_
          refine g_top (z := (pm_cmp (pm_wL (u : Int)) (pm_wL 0))) (z' := (if u = 0 then (0 : Int) else 1)) (e2) ?_
          refine g_if (t := 93) lk_50_65 rfl (by first | (unfold pm_inI; omega) | exact pm_and_in _ _ | exact pm_shr_in _ _ | exact pm_or_in _ _ | exact pm_xor_in _ _ | exact pm_shl_in _ _ | exact pm_cmp_in _ _ | exact pm_b8_in _ | (unfold pm_inI; split <;> omega)) (fun h2 => ?_) (fun h2 => ?_)
          · replace h2 : (if u = 0 then (0 : Int) else 1) = 0 := h2
            refine g_iinc (ls' := [(2, ((28 : Nat) : Int)), (1, (m : Int)), (9, 0), (0, ((n + 1 : Nat) : Int)), (1, ((2 ^ c : Nat) : Int)), (9, 0), (0, ((k : Int) + 1))]) lk_50_93 rfl rfl rfl ?_
            refine g_goto (t := 44) lk_50_96 rfl ?_
            refine next (fun q => ?_)
            rw [if_neg (cu.mp q.1)] at h2; cases h2
          · replace h2 : ¬ ((if u = 0 then (0 : Int) else 1) = 0) := h2
            refine g_aload_n lk_50_68 rfl ?_
            refine g_lload_n lk_50_69 rfl ?_
            refine g_aload_n lk_50_70 rfl ?_
            refine g_getfield lk_50_71 rfl (lay.on (by decide) rfl) (v := ((33 : Nat) : Int)) (lay.rf rfl) ?_
            refine g_iload lk_50_74 rfl ?_
            refine m_laload (u := []) (M := M) lk_50_76 (lay.ay (by decide) rfl) (by omega) (j := k) (by omega) (v := (w : Int)) v33 ?_
            refine g_ldc2_w lk_50_77 ?_
            refine g_lxor lk_50_80 ?_
            refine g_land lk_50_81 ?_
            refine g_top (z := (pm_andL (m : Int) (pm_xorL (w : Int) (-1)))) (z' := (m2 : Int)) (e3) ?_
            refine g_iload_n lk_50_82 rfl ?_
            refine g_iconst lk_50_83 ?_
            refine g_isub lk_50_84 ?_
            have inx : inA T v x c = true := cu.mpr (fun q => h2 (by rw [if_pos q]))
            rw [show ((n + 1 : Nat) : Int) - 1 = (n : Int) by omega]
            refine g_virtual (p := 28) (Qc := _) lk_50_85 rfl (Nat.le_of_ble_eq_true rfl) rfl rfl (lay.on (by decide) rfl) (Nat.le_of_ble_eq_true rfl) (Nat.le_of_ble_eq_true rfl) (Nat.zero_le _) (Nat.zero_le _) (ih d 0 0 m2 M (by omega) lay hF (by rw [hm2]; exact Nat.lt_of_le_of_lt (lD_le _ _) hm) (fun i hi => hcv i ((m2b i).mp hi).1)) ?_
            rintro _ N' ⟨⟨b, hbb, rfl⟩, rfl⟩
            rw [m2s] at hbb
            rcases hbb with ⟨rfl, q⟩ | ⟨rfl, q⟩
            · refine g_if (t := 93) lk_50_88 rfl (by unfold pm_inI; omega) (fun q => absurd q (show ¬ ((1 : Nat) : Int) = 0 by omega)) (fun _ => ?_)
              refine g_iconst lk_50_91 ?_
              refine g_ireturn lk_50_92 (fun _ => Or.inr rfl) ?_
              rw [hQ]
              exact ⟨⟨1, Or.inl ⟨rfl, (CV_s hb).mpr ⟨x, xF, inx, q⟩⟩, rfl⟩, rfl⟩
            · refine g_if (t := 93) lk_50_88 rfl (by unfold pm_inI; omega) (fun _ => ?_) (fun q => absurd (show ((0 : Nat) : Int) = 0 by omega) q)
              refine g_iinc (ls' := [(2, ((28 : Nat) : Int)), (1, (m : Int)), (9, 0), (0, ((n + 1 : Nat) : Int)), (1, ((2 ^ c : Nat) : Int)), (9, 0), (0, (k : Int) + 1)]) lk_50_93 rfl rfl rfl ?_
              refine g_goto (t := 44) lk_50_96 rfl ?_
              exact next (fun q' => q q'.2)
    have k34 : m ≠ 0 → Wp (d + (n + 1) + 2) 50 34 [(2, ((28 : Nat) : Int)), (1, (m : Int)), (9, 0), (0, ((n + 1 : Nat) : Int)), (9, 0), (9, 0), (9, 0)] [] M mc ms Q := by
      intro m0
      refine g_aload_n lk_50_34 rfl ?_
      refine g_lload_n lk_50_35 rfl ?_
      refine g_virtual (p := 28) (Qc := _) lk_50_36 rfl (Nat.le_of_ble_eq_true rfl) rfl rfl (lay.on (by decide) rfl) (Nat.le_of_ble_eq_true rfl) (Nat.le_of_ble_eq_true rfl) (Nat.zero_le _) (Nat.zero_le _) (c_Patches_rarest lay hT hF hm m0) ?_
      rintro _ N' ⟨⟨i, i1, i2, rfl⟩, rfl⟩
      refine g_lstore (ls' := [(2, ((28 : Nat) : Int)), (1, (m : Int)), (9, 0), (0, ((n + 1 : Nat) : Int)), (1, ((2 ^ i : Nat) : Int)), (9, 0), (9, 0)]) lk_50_39 rfl rfl ?_
      refine g_iconst lk_50_41 ?_
      refine g_istore (ls' := [(2, ((28 : Nat) : Int)), (1, (m : Int)), (9, 0), (0, ((n + 1 : Nat) : Int)), (1, ((2 ^ i : Nat) : Int)), (9, 0), (0, 0)]) lk_50_42 rfl rfl ?_
      exact loop L 0 i (by omega) i1 i2 (fun q hq => absurd hq (Nat.not_lt_zero q))
    have mn9 := c_Patches_mostNew (d := d + (n + 1)) (mc := 0) (ms := 0) lay hT hF hm
    rw [← hL] at mn9
    have zz := mnw_36 T v m L
    have pz := popL_le m
    have zn : mnw T v m L * (n + 1) ≤ 36 * 6 := Nat.mul_le_mul zz h6
    obtain ⟨z, hz⟩ : ∃ z, z = mnw T v m L * (n + 1) := ⟨_, rfl⟩
    have ez : (mnw T v m L : Int) * ((n + 1 : Nat) : Int) = (z : Int) := by rw [hz]; exact (Int.natCast_mul _ _).symm
    rw [← hz] at zn
    show Wp (d + (n + 1) + 2) 50 0 [(2, ((28 : Nat) : Int)), (1, (m : Int)), (9, 0), (0, ((n + 1 : Nat) : Int)), (9, 0), (9, 0), (9, 0)] [] M mc ms Q
    refine g_lload_n lk_50_0 rfl ?_
    refine g_lconst lk_50_1 ?_
    refine g_lcmp lk_50_2 ?_
    refine g_top (z := (pm_cmp (pm_wL (m : Int)) (pm_wL 0))) (z' := (if m = 0 then (0 : Int) else 1)) (e0) ?_
    refine g_if (t := 8) lk_50_3 rfl (by first | (unfold pm_inI; omega) | exact pm_and_in _ _ | exact pm_shr_in _ _ | exact pm_or_in _ _ | exact pm_xor_in _ _ | exact pm_shl_in _ _ | exact pm_cmp_in _ _ | exact pm_b8_in _ | (unfold pm_inI; split <;> omega)) (fun h1 => ?_) (fun h1 => ?_)
    · replace h1 : ¬ (if m = 0 then (0 : Int) else 1) = 0 := h1
      refine g_iload_n lk_50_8 rfl ?_
      refine g_if (t := 32) lk_50_9 rfl (by first | (unfold pm_inI; omega) | exact pm_and_in _ _ | exact pm_shr_in _ _ | exact pm_or_in _ _ | exact pm_xor_in _ _ | exact pm_shl_in _ _ | exact pm_cmp_in _ _ | exact pm_b8_in _ | (unfold pm_inI; split <;> omega)) (fun h2 => ?_) (fun h2 => ?_)
      · replace h2 : ((n + 1 : Nat) : Int) ≤ 0 := h2
        refine g_iconst lk_50_32 ?_
        refine g_ireturn lk_50_33 (fun _ => by omega) ?_
        omega
      · replace h2 : ¬ (((n + 1 : Nat) : Int) ≤ 0) := h2
        refine g_iload_n lk_50_12 rfl ?_
        refine g_bipush lk_50_13 ?_
        refine g_icmp (t := 32) lk_50_15 rfl (by first | (unfold pm_inI; omega) | exact pm_and_in _ _ | exact pm_shr_in _ _ | exact pm_or_in _ _ | exact pm_xor_in _ _ | exact pm_shl_in _ _ | exact pm_cmp_in _ _ | exact pm_b8_in _ | (unfold pm_inI; split <;> omega)) (by first | (unfold pm_inI; omega) | exact pm_and_in _ _ | exact pm_shr_in _ _ | exact pm_or_in _ _ | exact pm_xor_in _ _ | exact pm_shl_in _ _ | exact pm_cmp_in _ _ | exact pm_b8_in _ | (unfold pm_inI; split <;> omega)) (fun h3 => ?_) (fun h3 => ?_)
        · replace h3 : 6 < ((n + 1 : Nat) : Int) := h3
          refine g_iconst lk_50_32 ?_
          refine g_ireturn lk_50_33 (fun _ => by omega) ?_
          omega
        · replace h3 : ¬ (6 < ((n + 1 : Nat) : Int)) := h3
          refine g_aload_n lk_50_18 rfl ?_
          refine g_lload_n lk_50_19 rfl ?_
          refine g_virtual (p := 28) (Qc := _) lk_50_20 rfl (Nat.le_of_ble_eq_true rfl) rfl rfl (lay.on (by decide) rfl) (Nat.le_of_ble_eq_true rfl) (Nat.le_of_ble_eq_true rfl) (Nat.zero_le _) (Nat.zero_le _) (mn9) ?_
          rintro _ N4 ⟨rfl, hN4⟩
          rw [hN4]
          show Wp _ 50 23 [(2, ((28 : Nat) : Int)), (1, (m : Int)), (9, 0), (0, ((n + 1 : Nat) : Int)), (9, 0), (9, 0), (9, 0)] [(0, (mnw T v m L : Int))] M _ _ _
          refine g_iload_n lk_50_23 rfl ?_
          refine g_imul lk_50_24 ?_
          refine g_top (z := ((mnw T v m L : Int) * ((n + 1 : Nat) : Int))) (z' := (z : Int)) (ez) ?_
          refine g_lload_n lk_50_25 rfl ?_
          refine g_static (Qc := _) lk_50_26 (by decide) rfl (Nat.le_of_ble_eq_true rfl) rfl rfl (Nat.le_of_ble_eq_true rfl) (Nat.le_of_ble_eq_true rfl) (Nat.zero_le _) (Nat.zero_le _) (c_Long_bitCount hm) ?_
          rintro _ N5 ⟨rfl, hN5⟩
          rw [hN5]
          show Wp _ 50 29 [(2, ((28 : Nat) : Int)), (1, (m : Int)), (9, 0), (0, ((n + 1 : Nat) : Int)), (9, 0), (9, 0), (9, 0)] [(0, (popL m : Int)), (0, (z : Int))] M _ _ _
          refine g_icmp (t := 34) lk_50_29 rfl (by first | (unfold pm_inI; omega) | exact pm_and_in _ _ | exact pm_shr_in _ _ | exact pm_or_in _ _ | exact pm_xor_in _ _ | exact pm_shl_in _ _ | exact pm_cmp_in _ _ | exact pm_b8_in _ | (unfold pm_inI; split <;> omega)) (by first | (unfold pm_inI; omega) | exact pm_and_in _ _ | exact pm_shr_in _ _ | exact pm_or_in _ _ | exact pm_xor_in _ _ | exact pm_shl_in _ _ | exact pm_cmp_in _ _ | exact pm_b8_in _ | (unfold pm_inI; split <;> omega)) (fun h6 => ?_) (fun h6 => ?_)
          · replace h6 : (popL m : Int) ≤ (z : Int) := h6
            refine k34 (fun q => ?_)
            rw [if_pos q] at *; omega
          · replace h6 : ¬ ((popL m : Int) ≤ (z : Int)) := h6
            refine g_iconst lk_50_32 ?_
            refine g_ireturn lk_50_33 (fun _ => by omega) ?_
            rw [hQ]
            refine ⟨⟨0, Or.inr ⟨rfl, fun q => ?_⟩, rfl⟩, rfl⟩
            have := cov_count hT hcv (z := mnw T v m L) (fun x hx => ?_) q
            · rw [← hz] at this; omega
            · obtain ⟨p, hp, ep⟩ := List.getElem_of_mem hx
              have g : (FL T v).getD p 0 = x := by rw [List.getD_eq_getElem?_getD, List.getElem?_eq_getElem hp, ep]; rfl
              have := mnw_le T v m L p (by omega)
              rw [g] at this; exact this
    · replace h1 : ¬ (¬ (if m = 0 then (0 : Int) else 1) = 0) := h1
      refine g_iconst lk_50_6 ?_
      refine g_ireturn lk_50_7 (fun _ => by omega) ?_
      rw [hQ]
      refine ⟨⟨1, Or.inl ⟨rfl, CV_none (fun i => ?_)⟩, rfl⟩, rfl⟩
      have m0 : m = 0 := by
        refine Classical.byContradiction (fun q => h1 ?_)
        rw [if_neg q]; omega
      rw [m0, Nat.zero_testBit]; intro q; cases q
set_option maxHeartbeats 4000000 in
theorem c_Patches_fewestAreas {d mc ms : Nat} {M : pm_M} (lay : Lay M) {T : Tab} (hT : TabOK T) (hM : TbAt M 24 T) {v : Nat} (hP : PaAt M T v) (hF : FcAt M T v) {a : Nat} (ha : a ≤ 6) (hlo : ∀ n, CV T v n (Cv T v) → a ≤ n) :
    pm_E (d + 9) 49 [(2, ((28 : Nat) : Int)), (0, (a : Int))] M mc ms (fun ρ M' => (∃ n : Nat, IsCov T v n ∧ ρ = some (0, (n : Int))) ∧ M' = M) := by
  obtain ⟨Q, hQ⟩ : ∃ Q : pm_Q, Q = (fun ρ M' => (∃ n : Nat, IsCov T v n ∧ ρ = some (0, (n : Int))) ∧ M' = M) := ⟨_, rfl⟩
  rw [← hQ]
  have ht : (24 : Nat) = 4 ∨ (24 : Nat) = 24 := Or.inr rfl
  have hR := hT.1
  have hR6 := tR_64 hT
  have hC6 := tC_64 hT
  obtain ⟨e, he⟩ : ∃ e, e = enough T v := ⟨_, rfl⟩
  have e6 : e ≤ 6 := by rw [he]; exact enough_6 hT v
  have ce : CV T v e (Cv T v) := by rw [he]; exact CV_enough hT v
  obtain ⟨m, hm⟩ : ∃ m, m = wL T (2 ^ tR T - 1) (2 ^ tC T - 1) v (tR T) := ⟨_, rfl⟩
  have m36 : m < 68719476736 := by rw [hm]; exact wL_36 hT _ _ _
  have mb : ∀ i, m.testBit i = true ↔ Cv T v i := by rw [hm]; exact all_bit hT v
  have ms' : (fun i => m.testBit i = true) = Cv T v := funext (fun i => propext (mb i))
  have lp : ∀ (n k : Nat) (v4 : pm_V), (k + n = e ∨ (n = 0 ∧ e ≤ k)) → (∀ j, j < k → j < e → ¬ CV T v j (Cv T v)) → k ≤ 6 → Wp (d + 9) 49 91 [(2, ((28 : Nat) : Int)), (0, (a : Int)), (1, (m : Int)), (9, 0), v4, (0, (e : Int)), (0, (k : Int))] [] M mc ms Q := by
    intro n
    induction n with
    | zero =>
      intro k v4 hk hno k6
      refine g_iload lk_49_91 rfl ?_
      refine g_iload lk_49_93 rfl ?_
      refine g_icmp (t := 117) lk_49_95 rfl (by first | (unfold pm_inI; omega) | exact pm_and_in _ _ | exact pm_shr_in _ _ | exact pm_or_in _ _ | exact pm_xor_in _ _ | exact pm_shl_in _ _ | exact pm_cmp_in _ _ | exact pm_b8_in _ | (unfold pm_inI; split <;> omega)) (by first | (unfold pm_inI; omega) | exact pm_and_in _ _ | exact pm_shr_in _ _ | exact pm_or_in _ _ | exact pm_xor_in _ _ | exact pm_shl_in _ _ | exact pm_cmp_in _ _ | exact pm_b8_in _ | (unfold pm_inI; split <;> omega)) (fun h1 => ?_) (fun h1 => ?_)
      · replace h1 : (e : Int) ≤ (k : Int) := h1
        refine g_iload lk_49_117 rfl ?_
        refine g_ireturn lk_49_119 (fun h => absurd h (by decide)) ?_
        rw [hQ]
        exact ⟨⟨e, ⟨ce, fun j hj => hno j (by omega) hj⟩, rfl⟩, rfl⟩
      · replace h1 : ¬ ((e : Int) ≤ (k : Int)) := h1
        omega
    | succ n ih =>
      intro k v4 hk hno k6
      have cc := c_Patches_isCovered hT (v := v) k (d + 6 - k) 0 0 m M k6 lay hF m36 (fun i hi => (mb i).mp hi)
      rw [show d + 6 - k + k + 2 = d + 8 by omega, ms'] at cc
      refine g_iload lk_49_91 rfl ?_
      refine g_iload lk_49_93 rfl ?_
      refine g_icmp (t := 117) lk_49_95 rfl (by first | (unfold pm_inI; omega) | exact pm_and_in _ _ | exact pm_shr_in _ _ | exact pm_or_in _ _ | exact pm_xor_in _ _ | exact pm_shl_in _ _ | exact pm_cmp_in _ _ | exact pm_b8_in _ | (unfold pm_inI; split <;> omega)) (by first | (unfold pm_inI; omega) | exact pm_and_in _ _ | exact pm_shr_in _ _ | exact pm_or_in _ _ | exact pm_xor_in _ _ | exact pm_shl_in _ _ | exact pm_cmp_in _ _ | exact pm_b8_in _ | (unfold pm_inI; split <;> omega)) (fun h1 => ?_) (fun h1 => ?_)
      · replace h1 : (e : Int) ≤ (k : Int) := h1
        refine g_iload lk_49_117 rfl ?_
        refine g_ireturn lk_49_119 (fun h => absurd h (by decide)) ?_
        omega
      · replace h1 : ¬ ((e : Int) ≤ (k : Int)) := h1
        refine g_aload_n lk_49_98 rfl ?_
        refine g_lload_n lk_49_99 rfl ?_
        refine g_iload lk_49_100 rfl ?_
        refine g_virtual (p := 28) (Qc := _) lk_49_102 rfl (Nat.le_of_ble_eq_true rfl) rfl rfl (lay.on (by decide) rfl) (Nat.le_of_ble_eq_true rfl) (Nat.le_of_ble_eq_true rfl) (Nat.zero_le _) (Nat.zero_le _) cc ?_
        rintro _ N' ⟨⟨b, hbb, rfl⟩, rfl⟩
        rcases hbb with ⟨rfl, q⟩ | ⟨rfl, q⟩
        · refine g_if (t := 111) lk_49_105 rfl (by unfold pm_inI; omega) (fun q => absurd q (show ¬ ((1 : Nat) : Int) = 0 by omega)) (fun _ => ?_)
          refine g_iload lk_49_108 rfl ?_
          refine g_ireturn lk_49_110 (fun h => absurd h (by decide)) ?_
          rw [hQ]
          exact ⟨⟨k, ⟨q, fun j hj => hno j (by omega) (by omega)⟩, rfl⟩, rfl⟩
        · refine g_if (t := 111) lk_49_105 rfl (by unfold pm_inI; omega) (fun _ => ?_) (fun q => absurd (show ((0 : Nat) : Int) = 0 by omega) q)
          refine g_iinc (ls' := [(2, ((28 : Nat) : Int)), (0, (a : Int)), (1, (m : Int)), (9, 0), v4, (0, (e : Int)), (0, (k : Int) + 1)]) lk_49_111 rfl rfl rfl ?_
          refine g_goto (t := 91) lk_49_114 rfl ?_
          refine ih (k + 1) _ (by omega) (fun j hj hje => ?_) (by omega)
          by_cases e9 : j = k
          · rw [e9]; exact q
          · exact hno j (by omega) hje
  have rows : ∀ (n r : Nat), r + n = tR T → Wp (d + 9) 49 25 [(2, ((28 : Nat) : Int)), (0, (a : Int)), (1, (m : Int)), (9, 0), (0, (wo T v r : Int)), (0, (r : Int)), (9, 0)] [] M mc ms Q := by
    intro n
    induction n with
    | zero =>
      intro r hr
      have w6 := wo_le T v r
      obtain ⟨o, ho⟩ : ∃ o, o = ow T (2 ^ tR T - 1) v (tR T) := ⟨_, rfl⟩
      have o64 : o < 64 := by rw [ho]; exact ow_64 hT _ v _
      have op := pop_lt64 o64
      have ee : min ((wo T v r : Nat) : Int) ((pop o : Nat) : Int) = (e : Int) := by
        rw [he, show r = tR T by omega]
        unfold enough
        rw [← ho]; omega
      have ea : max (a : Int) 0 = (a : Int) := by omega
      refine g_iload lk_49_25 rfl ?_
      refine g_aload_n lk_49_27 rfl ?_
      refine g_getfield lk_49_28 rfl (lay.on (by decide) rfl) (v := ((24 : Nat) : Int)) (lay.rf rfl) ?_
      refine m_getfield (u := []) (M := M) lk_49_31 rfl (lay.on (by decide) rfl) (v := (tR T : Int)) hM.1 ?_
      refine g_icmp (t := 63) lk_49_34 rfl (by first | (unfold pm_inI; omega) | exact pm_and_in _ _ | exact pm_shr_in _ _ | exact pm_or_in _ _ | exact pm_xor_in _ _ | exact pm_shl_in _ _ | exact pm_cmp_in _ _ | exact pm_b8_in _ | (unfold pm_inI; split <;> omega)) (by first | (unfold pm_inI; omega) | exact pm_and_in _ _ | exact pm_shr_in _ _ | exact pm_or_in _ _ | exact pm_xor_in _ _ | exact pm_shl_in _ _ | exact pm_cmp_in _ _ | exact pm_b8_in _ | (unfold pm_inI; split <;> omega)) (fun h1 => ?_) (fun h1 => ?_)
      · replace h1 : (tR T : Int) ≤ (r : Int) := h1
        refine g_iload lk_49_63 rfl ?_
        refine g_aload_n lk_49_65 rfl ?_
        refine g_aload_n lk_49_66 rfl ?_
        refine g_getfield lk_49_67 rfl (lay.on (by decide) rfl) (v := ((24 : Nat) : Int)) (lay.rf rfl) ?_
        refine g_virtual (p := 24) (Qc := _) lk_49_70 rfl (Nat.le_of_ble_eq_true rfl) rfl rfl (lay.on (by decide) rfl) (Nat.le_of_ble_eq_true rfl) (Nat.le_of_ble_eq_true rfl) (Nat.zero_le _) (Nat.zero_le _) (c_Table_allRows lay ht hT hM) ?_
        rintro _ N2 ⟨rfl, hN2⟩
        rw [hN2]
        show Wp _ 49 73 [(2, ((28 : Nat) : Int)), (0, (a : Int)), (1, (m : Int)), (9, 0), (0, (wo T v r : Int)), (0, (r : Int)), (9, 0)] [(0, ((2 ^ tR T - 1 : Nat) : Int)), (2, ((28 : Nat) : Int)), (0, (wo T v r : Int))] M _ _ _
        refine g_virtual (p := 28) (Qc := _) lk_49_73 rfl (Nat.le_of_ble_eq_true rfl) rfl rfl (lay.on (by decide) rfl) (Nat.le_of_ble_eq_true rfl) (Nat.le_of_ble_eq_true rfl) (Nat.zero_le _) (Nat.zero_le _) ((by have := c_Patches_ownColumns (d := d + 7) (mc := 0) (ms := 0) lay hT hM hP hR6; rw [← ho] at this; exact this)) ?_
        rintro _ N3 ⟨rfl, hN3⟩
        rw [hN3]
        show Wp _ 49 76 [(2, ((28 : Nat) : Int)), (0, (a : Int)), (1, (m : Int)), (9, 0), (0, (wo T v r : Int)), (0, (r : Int)), (9, 0)] [(0, (o : Int)), (0, (wo T v r : Int))] M _ _ _
        refine g_static (Qc := _) lk_49_76 (by decide) rfl (Nat.le_of_ble_eq_true rfl) rfl rfl (Nat.le_of_ble_eq_true rfl) (Nat.le_of_ble_eq_true rfl) (Nat.zero_le _) (Nat.zero_le _) (c_Integer_bitCount (by omega)) ?_
        rintro _ N4 ⟨rfl, hN4⟩
        rw [hN4]
        show Wp _ 49 79 [(2, ((28 : Nat) : Int)), (0, (a : Int)), (1, (m : Int)), (9, 0), (0, (wo T v r : Int)), (0, (r : Int)), (9, 0)] [(0, (pop o : Int)), (0, (wo T v r : Int))] M _ _ _
        refine g_mmin lk_49_79 (by first | (unfold pm_inI; omega) | exact pm_and_in _ _ | exact pm_shr_in _ _ | exact pm_or_in _ _ | exact pm_xor_in _ _ | exact pm_shl_in _ _ | exact pm_cmp_in _ _ | exact pm_b8_in _ | (unfold pm_inI; split <;> omega)) (by first | (unfold pm_inI; omega) | exact pm_and_in _ _ | exact pm_shr_in _ _ | exact pm_or_in _ _ | exact pm_xor_in _ _ | exact pm_shl_in _ _ | exact pm_cmp_in _ _ | exact pm_b8_in _ | (unfold pm_inI; split <;> omega)) (Nat.le_of_ble_eq_true rfl) ?_
        refine g_top (z := (min (wo T v r : Int) (pop o : Int))) (z' := (e : Int)) (ee) ?_
        refine g_istore (ls' := [(2, ((28 : Nat) : Int)), (0, (a : Int)), (1, (m : Int)), (9, 0), (0, (wo T v r : Int)), (0, (e : Int)), (9, 0)]) lk_49_82 rfl rfl ?_
        refine g_iload_n lk_49_84 rfl ?_
        refine g_iconst lk_49_85 ?_
        refine g_mmax lk_49_86 (by first | (unfold pm_inI; omega) | exact pm_and_in _ _ | exact pm_shr_in _ _ | exact pm_or_in _ _ | exact pm_xor_in _ _ | exact pm_shl_in _ _ | exact pm_cmp_in _ _ | exact pm_b8_in _ | (unfold pm_inI; split <;> omega)) (by first | (unfold pm_inI; omega) | exact pm_and_in _ _ | exact pm_shr_in _ _ | exact pm_or_in _ _ | exact pm_xor_in _ _ | exact pm_shl_in _ _ | exact pm_cmp_in _ _ | exact pm_b8_in _ | (unfold pm_inI; split <;> omega)) (Nat.le_of_ble_eq_true rfl) ?_
        refine g_top (z := (max (a : Int) 0)) (z' := (a : Int)) (ea) ?_
        refine g_istore (ls' := [(2, ((28 : Nat) : Int)), (0, (a : Int)), (1, (m : Int)), (9, 0), (0, (wo T v r : Int)), (0, (e : Int)), (0, (a : Int))]) lk_49_89 rfl rfl ?_
        by_cases q : a ≤ e
        · exact lp (e - a) a _ (Or.inl (by omega)) (fun j hj _ c => by have := hlo j c; omega) ha
        · exact lp 0 a _ (Or.inr ⟨rfl, by omega⟩) (fun j hj _ c => by have := hlo j c; omega) ha
      · replace h1 : ¬ ((tR T : Int) ≤ (r : Int)) := h1
        omega
    | succ n ih =>
      intro r hr
      have v29 := (hP r (by omega)).1
      have o64 := oRow_64 hT r v (Nat.le_refl (tC T))
      have es : wo T v (r + 1) = wo T v r + if oRow T r v (tC T) = 0 then 0 else 1 := rfl
      refine g_iload lk_49_25 rfl ?_
      refine g_aload_n lk_49_27 rfl ?_
      refine g_getfield lk_49_28 rfl (lay.on (by decide) rfl) (v := ((24 : Nat) : Int)) (lay.rf rfl) ?_
      refine m_getfield (u := []) (M := M) lk_49_31 rfl (lay.on (by decide) rfl) (v := (tR T : Int)) hM.1 ?_
      refine g_icmp (t := 63) lk_49_34 rfl (by first | (unfold pm_inI; omega) | exact pm_and_in _ _ | exact pm_shr_in _ _ | exact pm_or_in _ _ | exact pm_xor_in _ _ | exact pm_shl_in _ _ | exact pm_cmp_in _ _ | exact pm_b8_in _ | (unfold pm_inI; split <;> omega)) (by first | (unfold pm_inI; omega) | exact pm_and_in _ _ | exact pm_shr_in _ _ | exact pm_or_in _ _ | exact pm_xor_in _ _ | exact pm_shl_in _ _ | exact pm_cmp_in _ _ | exact pm_b8_in _ | (unfold pm_inI; split <;> omega)) (fun h1 => ?_) (fun h1 => ?_)
      · replace h1 : (tR T : Int) ≤ (r : Int) := h1
        omega
      · replace h1 : ¬ ((tR T : Int) ≤ (r : Int)) := h1
        refine g_iload lk_49_37 rfl ?_
        refine g_aload_n lk_49_39 rfl ?_
        refine g_getfield lk_49_40 rfl (lay.on (by decide) rfl) (v := ((29 : Nat) : Int)) (lay.rf rfl) ?_
        refine g_iload lk_49_43 rfl ?_
        refine m_iaload (u := []) (M := M) lk_49_45 (lay.ay (by decide) rfl) (by omega) (j := r) (by omega) (v := ((oRow T r v (tC T) : Nat) : Int)) v29 ?_
        refine g_if (t := 53) lk_49_46 rfl (by first | (unfold pm_inI; omega) | exact pm_and_in _ _ | exact pm_shr_in _ _ | exact pm_or_in _ _ | exact pm_xor_in _ _ | exact pm_shl_in _ _ | exact pm_cmp_in _ _ | exact pm_b8_in _ | (unfold pm_inI; split <;> omega)) (fun h2 => ?_) (fun h2 => ?_)
        · replace h2 : ((oRow T r v (tC T) : Nat) : Int) = 0 := h2
          refine g_iconst lk_49_53 ?_
          refine g_iadd lk_49_54 ?_
          refine g_istore (ls' := [(2, ((28 : Nat) : Int)), (0, (a : Int)), (1, (m : Int)), (9, 0), (0, ((wo T v r : Int) + 0)), (0, (r : Int)), (9, 0)]) lk_49_55 rfl rfl ?_
          refine g_iinc (ls' := [(2, ((28 : Nat) : Int)), (0, (a : Int)), (1, (m : Int)), (9, 0), (0, ((wo T v r : Int) + 0)), (0, ((r : Int) + 1)), (9, 0)]) lk_49_57 rfl rfl rfl ?_
          refine g_goto (t := 25) lk_49_60 rfl ?_
          have := ih (r + 1) (by omega)
          rw [es, if_pos (by omega)] at this
          exact this
        · replace h2 : ¬ (((oRow T r v (tC T) : Nat) : Int) = 0) := h2
          refine g_iconst lk_49_49 ?_
          refine g_goto (t := 54) lk_49_50 rfl ?_
          refine g_iadd lk_49_54 ?_
          refine g_istore (ls' := [(2, ((28 : Nat) : Int)), (0, (a : Int)), (1, (m : Int)), (9, 0), (0, ((wo T v r : Int) + 1)), (0, (r : Int)), (9, 0)]) lk_49_55 rfl rfl ?_
          refine g_iinc (ls' := [(2, ((28 : Nat) : Int)), (0, (a : Int)), (1, (m : Int)), (9, 0), (0, ((wo T v r : Int) + 1)), (0, ((r : Int) + 1)), (9, 0)]) lk_49_57 rfl rfl rfl ?_
          refine g_goto (t := 25) lk_49_60 rfl ?_
          have := ih (r + 1) (by omega)
          rw [es, if_neg (by omega)] at this
          exact this
  show Wp (d + 9) 49 0 [(2, ((28 : Nat) : Int)), (0, (a : Int)), (9, 0), (9, 0), (9, 0), (9, 0), (9, 0)] [] M mc ms Q
  refine g_aload_n lk_49_0 rfl ?_
  refine g_aload_n lk_49_1 rfl ?_
  refine g_getfield lk_49_2 rfl (lay.on (by decide) rfl) (v := ((24 : Nat) : Int)) (lay.rf rfl) ?_
  refine g_virtual (p := 24) (Qc := _) lk_49_5 rfl (Nat.le_of_ble_eq_true rfl) rfl rfl (lay.on (by decide) rfl) (Nat.le_of_ble_eq_true rfl) (Nat.le_of_ble_eq_true rfl) (Nat.zero_le _) (Nat.zero_le _) (c_Table_allRows lay ht hT hM) ?_
  rintro _ N1 ⟨rfl, hN1⟩
  rw [hN1]
  show Wp _ 49 8 [(2, ((28 : Nat) : Int)), (0, (a : Int)), (9, 0), (9, 0), (9, 0), (9, 0), (9, 0)] [(0, ((2 ^ tR T - 1 : Nat) : Int)), (2, ((28 : Nat) : Int))] M _ _ _
  refine g_aload_n lk_49_8 rfl ?_
  refine g_getfield lk_49_9 rfl (lay.on (by decide) rfl) (v := ((24 : Nat) : Int)) (lay.rf rfl) ?_
  refine g_virtual (p := 24) (Qc := _) lk_49_12 rfl (Nat.le_of_ble_eq_true rfl) rfl rfl (lay.on (by decide) rfl) (Nat.le_of_ble_eq_true rfl) (Nat.le_of_ble_eq_true rfl) (Nat.zero_le _) (Nat.zero_le _) (c_Table_allColumns lay ht hT hM) ?_
  rintro _ N2 ⟨rfl, hN2⟩
  rw [hN2]
  show Wp _ 49 15 [(2, ((28 : Nat) : Int)), (0, (a : Int)), (9, 0), (9, 0), (9, 0), (9, 0), (9, 0)] [(0, ((2 ^ tC T - 1 : Nat) : Int)), (0, ((2 ^ tR T - 1 : Nat) : Int)), (2, ((28 : Nat) : Int))] M _ _ _
  refine g_virtual (p := 28) (Qc := _) lk_49_15 rfl (Nat.le_of_ble_eq_true rfl) rfl rfl (lay.on (by decide) rfl) (Nat.le_of_ble_eq_true rfl) (Nat.le_of_ble_eq_true rfl) (Nat.zero_le _) (Nat.zero_le _) ((by have := c_Patches_ownCells (d := d + 7) (mc := 0) (ms := 0) lay hT hM hP hR6 hC6; rw [← hm] at this; exact this)) ?_
  rintro _ N3 ⟨rfl, hN3⟩
  rw [hN3]
  show Wp _ 49 18 [(2, ((28 : Nat) : Int)), (0, (a : Int)), (9, 0), (9, 0), (9, 0), (9, 0), (9, 0)] [(1, (m : Int))] M _ _ _
  refine g_lstore_n (ls' := [(2, ((28 : Nat) : Int)), (0, (a : Int)), (1, (m : Int)), (9, 0), (9, 0), (9, 0), (9, 0)]) lk_49_18 rfl rfl ?_
  refine g_iconst lk_49_19 ?_
  refine g_istore (ls' := [(2, ((28 : Nat) : Int)), (0, (a : Int)), (1, (m : Int)), (9, 0), (0, 0), (9, 0), (9, 0)]) lk_49_20 rfl rfl ?_
  refine g_iconst lk_49_22 ?_
  refine g_istore (ls' := [(2, ((28 : Nat) : Int)), (0, (a : Int)), (1, (m : Int)), (9, 0), (0, 0), (0, 0), (9, 0)]) lk_49_23 rfl rfl ?_
  exact rows (tR T) 0 (by omega)
/-- the scratch of Patches and Fools -/
def sPF : List Nat := [28, 29, 30, 31, 32, 33, 34, 35, 36, 37, 38]
set_option maxHeartbeats 4000000 in
theorem c_X_coverOf {d mc ms : Nat} {M : pm_M} (lay0 : Lay M) {T : Tab} (hT : TabOK T) (hM0 : TbAt M 24 T) {v : Nat} (hv : v < 10) :
    pm_E (d + 10) 155 [(2, ((1 : Nat) : Int)), (0, (v : Int))] M mc ms (fun ρ M' => (∃ n : Nat, IsCov T v n ∧ ρ = some (0, (n : Int))) ∧ Lay M' ∧ Fr sPF M M') := by
  have mP : ∀ {A B : pm_M}, Fr sP A B → Fr sPF A B := fun h => h.mono (fun a q => by unfold sP at q; unfold sPF; simp at q; simp; omega)
  have mF : ∀ {A B : pm_M}, Fr sF A B → Fr sPF A B := fun h => h.mono (fun a q => by unfold sF at q; unfold sPF; simp at q; simp; omega)
  show Wp (d + 10) 155 0 [(2, ((1 : Nat) : Int)), (0, (v : Int))] [] M mc ms _
  refine g_aload_n lk_155_0 rfl ?_
  refine g_getfield lk_155_1 rfl (lay0.on (by decide) rfl) (v := ((28 : Nat) : Int)) (lay0.rf rfl) ?_
  refine g_iload_n lk_155_4 rfl ?_
  refine g_virtual (p := 28) (Qc := _) lk_155_5 rfl (Nat.le_of_ble_eq_true rfl) rfl rfl (lay0.on (by decide) rfl) (Nat.le_of_ble_eq_true rfl) (Nat.le_of_ble_eq_true rfl) (Nat.zero_le _) (Nat.zero_le _) (c_Patches_take (d := d + 6) lay0 hT hM0 (v := v) (by omega)) ?_
  rintro _ N1 ⟨rfl, f, g, hN, lay1, hP1⟩
  have f1 : Fr sP M N1 := (by rw [hN]; exact Fr.mu _ _ rfl)
  show Wp _ 155 8 [(2, ((1 : Nat) : Int)), (0, (v : Int))] [] N1 _ _ _
  refine g_aload_n lk_155_8 rfl ?_
  refine g_getfield lk_155_9 rfl (lay1.on (by decide) rfl) (v := ((28 : Nat) : Int)) (lay1.rf rfl) ?_
  refine g_virtual (p := 28) (Qc := _) lk_155_12 rfl (Nat.le_of_ble_eq_true rfl) rfl rfl (lay1.on (by decide) rfl) (Nat.le_of_ble_eq_true rfl) (Nat.le_of_ble_eq_true rfl) (Nat.zero_le _) (Nat.zero_le _) (c_Patches_findFull (d := d + 7) lay1 hT (hM0.fr f1 (by decide) (by decide)) hP1) ?_
  rintro _ N2 ⟨rfl, lay2, f2, hP2, hU2⟩
  have g2 : Fr sP M N2 := f1.trans f2
  show Wp _ 155 15 [(2, ((1 : Nat) : Int)), (0, (v : Int))] [] N2 _ _ _
  refine g_aload_n lk_155_15 rfl ?_
  refine g_getfield lk_155_16 rfl (lay2.on (by decide) rfl) (v := ((34 : Nat) : Int)) (lay2.rf rfl) ?_
  refine g_iload_n lk_155_19 rfl ?_
  refine g_virtual (p := 34) (Qc := _) lk_155_20 rfl (Nat.le_of_ble_eq_true rfl) rfl rfl (lay2.on (by decide) rfl) (Nat.le_of_ble_eq_true rfl) (Nat.le_of_ble_eq_true rfl) (Nat.zero_le _) (Nat.zero_le _) (c_Fools_take (d := d + 7) lay2 hT (hM0.fr g2 (by decide) (by decide)) hv) ?_
  rintro _ N3 ⟨rfl, lay3, f3, hFo3⟩
  have g3 : Fr sPF M N3 := (mP g2).trans (mF (sF_1 f3))
  show Wp _ 155 23 [(2, ((1 : Nat) : Int)), (0, (v : Int))] [] N3 _ _ _
  refine g_aload_n lk_155_23 rfl ?_
  refine g_getfield lk_155_24 rfl (lay3.on (by decide) rfl) (v := ((34 : Nat) : Int)) (lay3.rf rfl) ?_
  refine g_virtual (p := 34) (Qc := _) lk_155_27 rfl (Nat.le_of_ble_eq_true rfl) rfl rfl (lay3.on (by decide) rfl) (Nat.le_of_ble_eq_true rfl) (Nat.le_of_ble_eq_true rfl) (Nat.zero_le _) (Nat.zero_le _) (c_Fools_findGreatest (d := d + 1) lay3 hT hFo3) ?_
  rintro _ N4 ⟨rfl, lay4, f4, hFo4, g6, gl, gp, gB⟩
  have g4 : Fr sPF M N4 := g3.trans (mF (sF_2 f4))
  have q28 : ∀ a, a ∉ sF → pm_ct N4 a = pm_ct N2 a := fun a ha => ((sF_2 f4).ct ha).trans ((sF_1 f3).ct ha)
  show Wp _ 155 30 [(2, ((1 : Nat) : Int)), (0, (v : Int))] [] N4 _ _ _
  refine g_aload_n lk_155_30 rfl ?_
  refine g_getfield lk_155_31 rfl (lay4.on (by decide) rfl) (v := ((28 : Nat) : Int)) (lay4.rf rfl) ?_
  refine g_aload_n lk_155_34 rfl ?_
  refine g_getfield lk_155_35 rfl (lay4.on (by decide) rfl) (v := ((34 : Nat) : Int)) (lay4.rf rfl) ?_
  refine m_getfield (u := []) (M := N4) lk_155_38 rfl (lay4.on (by decide) rfl) (v := ((bK T v).length : Int)) g6 ?_
  refine g_virtual (p := 28) (Qc := _) lk_155_41 rfl (Nat.le_of_ble_eq_true rfl) rfl rfl (lay4.on (by decide) rfl) (Nat.le_of_ble_eq_true rfl) (Nat.le_of_ble_eq_true rfl) (Nat.zero_le _) (Nat.zero_le _) (c_Patches_fewestAreas (d := d) lay4 hT (hM0.fr g4 (by decide) (by decide)) (v := v) (hP2.of (q28 29 (by decide)) (q28 30 (by decide))) (by have := hU2.fc; unfold FcAt at this ⊢; rw [q28 28 (by decide), q28 33 (by decide)]; exact this) gl (fun n hn => fool_le hT gB.1 hn)) ?_
  rintro _ N5 ⟨⟨n, hn, rfl⟩, rfl⟩
  exact g_ireturn lk_155_44 (fun h => absurd h (by decide)) ⟨⟨n, hn, rfl⟩, lay4, g4⟩
noncomputable def sCover (T : Tab) (v : Int) : Int := if isV v = 0 then -1 else (covN T v.toNat : Int)
theorem c_X_cover {d mc ms : Nat} {M : pm_M} (lay0 : Lay M) {T : Tab} (hT : TabOK T) (hM0 : TbAt M 24 T) {v : Int} (hv : pm_inI v) :
    pm_E (d + 11) 127 [(2, ((1 : Nat) : Int)), (0, v)] M mc ms (fun ρ M' => ρ = some (0, sCover T v) ∧ Lay M' ∧ Fr sPF M M') := by
  have iv := isV_range v
  show Wp (d + 11) 127 0 [(2, ((1 : Nat) : Int)), (0, v)] [] M mc ms _
  refine g_iload_n lk_127_0 rfl ?_
  refine g_static (Qc := _) lk_127_1 (by decide) rfl (Nat.le_of_ble_eq_true rfl) rfl rfl (Nat.le_of_ble_eq_true rfl) (Nat.le_of_ble_eq_true rfl) (Nat.zero_le _) (Nat.zero_le _) (c_X_isValue (by assumption)) ?_
  rintro _ N1 ⟨rfl, hN1⟩
  rw [hN1]
  show Wp _ 127 4 [(2, ((1 : Nat) : Int)), (0, v)] [(0, (isV v))] M _ _ _
  refine g_if (t := 15) lk_127_4 rfl (by (unfold pm_inI; omega)) (fun h2 => ?_) (fun h2 => ?_)
  · replace h2 : (isV v) = 0 := h2
    refine g_iconst lk_127_15 ?_
    refine g_ireturn lk_127_16 (fun h => absurd h (by decide)) ?_
    refine ⟨?_, lay0, Fr.refl _ _⟩
    unfold sCover
    rw [if_pos (by omega)]
  · replace h2 : ¬ ((isV v) = 0) := h2
    refine g_aload_n lk_127_7 rfl ?_
    refine g_iload_n lk_127_8 rfl ?_
    obtain ⟨v1, v2⟩ := isV_1 h2
    obtain ⟨u, rfl⟩ := Int.eq_ofNat_of_zero_le v1
    refine g_virtual (p := 1) (Qc := _) lk_127_9 rfl (Nat.le_of_ble_eq_true rfl) rfl rfl (lay0.on (by decide) rfl) (Nat.le_of_ble_eq_true rfl) (Nat.le_of_ble_eq_true rfl) (Nat.zero_le _) (Nat.zero_le _) (c_X_coverOf (d := d) lay0 hT hM0 (v := u) (by omega)) ?_
    rintro _ N' ⟨⟨n, hn, rfl⟩, lay', hF'⟩
    refine g_goto (t := 16) lk_127_12 rfl ?_
    refine g_ireturn lk_127_16 (fun h => absurd h (by decide)) ⟨?_, lay', hF'⟩
    unfold sCover
    rw [if_neg h2, Int.toNat_natCast, ← covN_eq hn]
