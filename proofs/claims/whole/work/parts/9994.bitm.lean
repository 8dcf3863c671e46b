/-! ===== small steps of reading: the model ===== -/
theorem c_Mo_isWord {d mc ms : Nat} {M : pm_M} (lay : Lay M) {n : Nat} {ch : Nat → Nat} {t : Tok} (hT : TkM M ch t) (hK : TkOK ch n t) {w : Int} (hw : 0 ≤ w ∧ w < 1073741824) {l : List Nat} (hl : ∀ m : List Nat, LtOK m → ((nr 32 m : Int) = w ↔ m = l)) :
    pm_E d 186 [(2, ((116 : Nat) : Int)), (0, w)] M mc ms (fun ρ M' => ρ = some (0, if t.1 = 1 ∧ twd ch t = l then 1 else 0) ∧ M' = M) := by
  obtain ⟨f27, _, _, f28⟩ := hT
  have t4 := hK.1
  show Wp d 186 0 [(2, ((116 : Nat) : Int)), (0, w)] [] M mc ms _
  by_cases e : t.1 = 1
  · have lt := hK.lt e
    have sm := nr_small (b := 32) (by omega) (by omega) lt
    have h28 := f28 e
    have f27' : pm_ct M 116 27 = 1 := by rw [f27, e]; rfl
    have hw2 := hl (twd ch t) lt
    obtain ⟨x, hx⟩ : ∃ x, x = nr 32 (twd ch t) := ⟨_, rfl⟩
    have h28' : pm_ct M 116 28 = (x : Int) := by rw [hx]; exact h28
    rw [← hx] at sm hw2
    refine g_aload_n lk_186_0 rfl ?_
    refine m_getfield (u := []) (M := M) lk_186_1 rfl (lay.on (by decide) rfl) (v := 1) f27' ?_
    refine g_iconst lk_186_4 ?_
    refine g_icmp (t := 20) lk_186_5 rfl (by first | (unfold pm_inI; omega) | exact pm_and_in _ _ | exact pm_shr_in _ _ | exact pm_or_in _ _ | exact pm_xor_in _ _ | exact pm_shl_in _ _ | exact pm_cmp_in _ _ | exact pm_b8_in _ | (unfold pm_inI; split <;> omega)) (by first | (unfold pm_inI; omega) | exact pm_and_in _ _ | exact pm_shr_in _ _ | exact pm_or_in _ _ | exact pm_xor_in _ _ | exact pm_shl_in _ _ | exact pm_cmp_in _ _ | exact pm_b8_in _ | (unfold pm_inI; split <;> omega)) (fun h => absurd h (show ¬ (¬ (1 : Int) = (1 : Int)) by omega)) (fun _ => ?_)
    refine g_aload_n lk_186_8 rfl ?_
    refine m_getfield (u := []) (M := M) lk_186_9 rfl (lay.on (by decide) rfl) (v := (x : Int)) h28' ?_
    refine g_iload_n lk_186_12 rfl ?_
    refine g_icmp (t := 20) lk_186_13 rfl (by first | (unfold pm_inI; omega) | exact pm_and_in _ _ | exact pm_shr_in _ _ | exact pm_or_in _ _ | exact pm_xor_in _ _ | exact pm_shl_in _ _ | exact pm_cmp_in _ _ | exact pm_b8_in _ | (unfold pm_inI; split <;> omega)) (by first | (unfold pm_inI; omega) | exact pm_and_in _ _ | exact pm_shr_in _ _ | exact pm_or_in _ _ | exact pm_xor_in _ _ | exact pm_shl_in _ _ | exact pm_cmp_in _ _ | exact pm_b8_in _ | (unfold pm_inI; split <;> omega)) (fun h1 => ?_) (fun h1 => ?_)
    · replace h1 : ¬ (x : Int) = w := h1
      refine g_iconst lk_186_20 ?_
      refine g_ireturn lk_186_21 (fun _ => by omega) ?_
      exact ⟨by rw [if_neg (fun q => h1 (hw2.mpr q.2))], rfl⟩
    · replace h1 : ¬ (¬ (x : Int) = w) := h1
      refine g_iconst lk_186_16 ?_
      refine g_goto (t := 21) lk_186_17 rfl ?_
      refine g_ireturn lk_186_21 (fun _ => by omega) ?_
      exact ⟨by rw [if_pos ⟨e, hw2.mp (by omega)⟩], rfl⟩
  · obtain ⟨K, hk⟩ : ∃ K, K = t.1 := ⟨_, rfl⟩
    rw [← hk] at f27 t4 e ⊢
    refine g_aload_n lk_186_0 rfl ?_
    refine m_getfield (u := []) (M := M) lk_186_1 rfl (lay.on (by decide) rfl) (v := (K : Int)) f27 ?_
    refine g_iconst lk_186_4 ?_
    refine g_icmp (t := 20) lk_186_5 rfl (by first | (unfold pm_inI; omega) | exact pm_and_in _ _ | exact pm_shr_in _ _ | exact pm_or_in _ _ | exact pm_xor_in _ _ | exact pm_shl_in _ _ | exact pm_cmp_in _ _ | exact pm_b8_in _ | (unfold pm_inI; split <;> omega)) (by first | (unfold pm_inI; omega) | exact pm_and_in _ _ | exact pm_shr_in _ _ | exact pm_or_in _ _ | exact pm_xor_in _ _ | exact pm_shl_in _ _ | exact pm_cmp_in _ _ | exact pm_b8_in _ | (unfold pm_inI; split <;> omega)) (fun h1 => ?_) (fun h1 => ?_)
    · replace h1 : ¬ (K : Int) = 1 := h1
      refine g_iconst lk_186_20 ?_
      refine g_ireturn lk_186_21 (fun _ => by omega) ?_
      exact ⟨by rw [if_neg (fun q => e q.1)], rfl⟩
    · replace h1 : ¬ (¬ (K : Int) = 1) := h1
      omega
abbrev isNd (ch : Nat → Nat) (t : Tok) : Prop := t.1 = 1 ∧ (twd ch t = wLeaf ∨ twd ch t = wdA ∨ twd ch t = wdB)
abbrev isNm (ch : Nat → Nat) (t : Tok) : Prop := t.1 = 1 ∧ ¬ (twd ch t = wLeaf ∨ twd ch t = wdA ∨ twd ch t = wdB) ∧ ¬ twd ch t = wCost ∧ ¬ twd ch t = wTree
theorem c_Mo_isNode {d mc ms : Nat} {M : pm_M} (lay : Lay M) {n : Nat} {ch : Nat → Nat} {t : Tok} (hT : TkM M ch t) (hK : TkOK ch n t) :
    pm_E (d + 1) 187 [(2, ((116 : Nat) : Int))] M mc ms (fun ρ M' => ρ = some (0, if isNd ch t then 1 else 0) ∧ M' = M) := by
  have w1 := c_Mo_isWord (d := d) (mc := 0) (ms := 0) lay hT hK (w := 398374) (by omega) (l := wLeaf) (fun m hm => (w32_con hm).2.2.2.2)
  have w2 := c_Mo_isWord (d := d) (mc := 0) (ms := 0) lay hT hK (w := 1) (by omega) (l := wdA) (fun m hm => (w32_con hm).1)
  have w3 := c_Mo_isWord (d := d) (mc := 0) (ms := 0) lay hT hK (w := 2) (by omega) (l := wdB) (fun m hm => (w32_con hm).2.1)
  show Wp (d + 1) 187 0 [(2, ((116 : Nat) : Int))] [] M mc ms _
  by_cases e1 : t.1 = 1 ∧ twd ch t = wLeaf
  · rw [if_pos e1] at w1
    refine g_aload_n lk_187_0 rfl ?_
    refine g_ldc lk_187_1 ?_
    refine g_virtual (p := 116) (Qc := _) lk_187_3 rfl (Nat.le_of_ble_eq_true rfl) rfl rfl (lay.on (by decide) rfl) (Nat.le_of_ble_eq_true rfl) (Nat.le_of_ble_eq_true rfl) (Nat.zero_le _) (Nat.zero_le _) (w1) ?_
    rintro _ N1 ⟨rfl, hN1⟩
    rw [hN1]
    show Wp _ 187 6 [(2, ((116 : Nat) : Int))] [(0, 1)] M _ _ _
    refine g_if (t := 25) lk_187_6 rfl (by first | (unfold pm_inI; omega) | exact pm_and_in _ _ | exact pm_shr_in _ _ | exact pm_or_in _ _ | exact pm_xor_in _ _ | exact pm_shl_in _ _ | exact pm_cmp_in _ _ | exact pm_b8_in _ | (unfold pm_inI; split <;> omega)) (fun _ => ?_) (fun h => absurd (show ¬ (1 : Int) = (0 : Int) by omega) h)
    refine g_iconst lk_187_25 ?_
    refine g_goto (t := 30) lk_187_26 rfl ?_
    refine g_ireturn lk_187_30 (fun _ => by omega) ?_
    exact ⟨by rw [if_pos ⟨e1.1, Or.inl e1.2⟩], rfl⟩
  rw [if_neg e1] at w1
  by_cases e2 : t.1 = 1 ∧ twd ch t = wdA
  · rw [if_pos e2] at w2
    refine g_aload_n lk_187_0 rfl ?_
    refine g_ldc lk_187_1 ?_
    refine g_virtual (p := 116) (Qc := _) lk_187_3 rfl (Nat.le_of_ble_eq_true rfl) rfl rfl (lay.on (by decide) rfl) (Nat.le_of_ble_eq_true rfl) (Nat.le_of_ble_eq_true rfl) (Nat.zero_le _) (Nat.zero_le _) (w1) ?_
    rintro _ N1 ⟨rfl, hN1⟩
    rw [hN1]
    show Wp _ 187 6 [(2, ((116 : Nat) : Int))] [(0, 0)] M _ _ _
    refine g_if (t := 25) lk_187_6 rfl (by first | (unfold pm_inI; omega) | exact pm_and_in _ _ | exact pm_shr_in _ _ | exact pm_or_in _ _ | exact pm_xor_in _ _ | exact pm_shl_in _ _ | exact pm_cmp_in _ _ | exact pm_b8_in _ | (unfold pm_inI; split <;> omega)) (fun h => absurd h (show ¬ (¬ (0 : Int) = (0 : Int)) by omega)) (fun _ => ?_)
    refine g_aload_n lk_187_9 rfl ?_
    refine g_iconst lk_187_10 ?_
    refine g_virtual (p := 116) (Qc := _) lk_187_11 rfl (Nat.le_of_ble_eq_true rfl) rfl rfl (lay.on (by decide) rfl) (Nat.le_of_ble_eq_true rfl) (Nat.le_of_ble_eq_true rfl) (Nat.zero_le _) (Nat.zero_le _) (w2) ?_
    rintro _ N2 ⟨rfl, hN2⟩
    rw [hN2]
    show Wp _ 187 14 [(2, ((116 : Nat) : Int))] [(0, 1)] M _ _ _
    refine g_if (t := 25) lk_187_14 rfl (by first | (unfold pm_inI; omega) | exact pm_and_in _ _ | exact pm_shr_in _ _ | exact pm_or_in _ _ | exact pm_xor_in _ _ | exact pm_shl_in _ _ | exact pm_cmp_in _ _ | exact pm_b8_in _ | (unfold pm_inI; split <;> omega)) (fun _ => ?_) (fun h => absurd (show ¬ (1 : Int) = (0 : Int) by omega) h)
    refine g_iconst lk_187_25 ?_
    refine g_goto (t := 30) lk_187_26 rfl ?_
    refine g_ireturn lk_187_30 (fun _ => by omega) ?_
    exact ⟨by rw [if_pos ⟨e2.1, Or.inr (Or.inl e2.2)⟩], rfl⟩
  rw [if_neg e2] at w2
  by_cases e3 : t.1 = 1 ∧ twd ch t = wdB
  · rw [if_pos e3] at w3
    refine g_aload_n lk_187_0 rfl ?_
    refine g_ldc lk_187_1 ?_
    refine g_virtual (p := 116) (Qc := _) lk_187_3 rfl (Nat.le_of_ble_eq_true rfl) rfl rfl (lay.on (by decide) rfl) (Nat.le_of_ble_eq_true rfl) (Nat.le_of_ble_eq_true rfl) (Nat.zero_le _) (Nat.zero_le _) (w1) ?_
    rintro _ N1 ⟨rfl, hN1⟩
    rw [hN1]
    show Wp _ 187 6 [(2, ((116 : Nat) : Int))] [(0, 0)] M _ _ _
    refine g_if (t := 25) lk_187_6 rfl (by first | (unfold pm_inI; omega) | exact pm_and_in _ _ | exact pm_shr_in _ _ | exact pm_or_in _ _ | exact pm_xor_in _ _ | exact pm_shl_in _ _ | exact pm_cmp_in _ _ | exact pm_b8_in _ | (unfold pm_inI; split <;> omega)) (fun h => absurd h (show ¬ (¬ (0 : Int) = (0 : Int)) by omega)) (fun _ => ?_)
    refine g_aload_n lk_187_9 rfl ?_
    refine g_iconst lk_187_10 ?_
    refine g_virtual (p := 116) (Qc := _) lk_187_11 rfl (Nat.le_of_ble_eq_true rfl) rfl rfl (lay.on (by decide) rfl) (Nat.le_of_ble_eq_true rfl) (Nat.le_of_ble_eq_true rfl) (Nat.zero_le _) (Nat.zero_le _) (w2) ?_
    rintro _ N2 ⟨rfl, hN2⟩
    rw [hN2]
    show Wp _ 187 14 [(2, ((116 : Nat) : Int))] [(0, 0)] M _ _ _
    refine g_if (t := 25) lk_187_14 rfl (by first | (unfold pm_inI; omega) | exact pm_and_in _ _ | exact pm_shr_in _ _ | exact pm_or_in _ _ | exact pm_xor_in _ _ | exact pm_shl_in _ _ | exact pm_cmp_in _ _ | exact pm_b8_in _ | (unfold pm_inI; split <;> omega)) (fun h => absurd h (show ¬ (¬ (0 : Int) = (0 : Int)) by omega)) (fun _ => ?_)
    refine g_aload_n lk_187_17 rfl ?_
    refine g_iconst lk_187_18 ?_
    refine g_virtual (p := 116) (Qc := _) lk_187_19 rfl (Nat.le_of_ble_eq_true rfl) rfl rfl (lay.on (by decide) rfl) (Nat.le_of_ble_eq_true rfl) (Nat.le_of_ble_eq_true rfl) (Nat.zero_le _) (Nat.zero_le _) (w3) ?_
    rintro _ N3 ⟨rfl, hN3⟩
    rw [hN3]
    show Wp _ 187 22 [(2, ((116 : Nat) : Int))] [(0, 1)] M _ _ _
    refine g_if (t := 29) lk_187_22 rfl (by first | (unfold pm_inI; omega) | exact pm_and_in _ _ | exact pm_shr_in _ _ | exact pm_or_in _ _ | exact pm_xor_in _ _ | exact pm_shl_in _ _ | exact pm_cmp_in _ _ | exact pm_b8_in _ | (unfold pm_inI; split <;> omega)) (fun h => absurd h (show ¬ ((1 : Int) = (0 : Int)) by omega)) (fun _ => ?_)
    refine g_iconst lk_187_25 ?_
    refine g_goto (t := 30) lk_187_26 rfl ?_
    refine g_ireturn lk_187_30 (fun _ => by omega) ?_
    exact ⟨by rw [if_pos ⟨e3.1, Or.inr (Or.inr e3.2)⟩], rfl⟩
  · rw [if_neg e3] at w3
    refine g_aload_n lk_187_0 rfl ?_
    refine g_ldc lk_187_1 ?_
    refine g_virtual (p := 116) (Qc := _) lk_187_3 rfl (Nat.le_of_ble_eq_true rfl) rfl rfl (lay.on (by decide) rfl) (Nat.le_of_ble_eq_true rfl) (Nat.le_of_ble_eq_true rfl) (Nat.zero_le _) (Nat.zero_le _) (w1) ?_
    rintro _ N1 ⟨rfl, hN1⟩
    rw [hN1]
    show Wp _ 187 6 [(2, ((116 : Nat) : Int))] [(0, 0)] M _ _ _
    refine g_if (t := 25) lk_187_6 rfl (by first | (unfold pm_inI; omega) | exact pm_and_in _ _ | exact pm_shr_in _ _ | exact pm_or_in _ _ | exact pm_xor_in _ _ | exact pm_shl_in _ _ | exact pm_cmp_in _ _ | exact pm_b8_in _ | (unfold pm_inI; split <;> omega)) (fun h => absurd h (show ¬ (¬ (0 : Int) = (0 : Int)) by omega)) (fun _ => ?_)
    refine g_aload_n lk_187_9 rfl ?_
    refine g_iconst lk_187_10 ?_
    refine g_virtual (p := 116) (Qc := _) lk_187_11 rfl (Nat.le_of_ble_eq_true rfl) rfl rfl (lay.on (by decide) rfl) (Nat.le_of_ble_eq_true rfl) (Nat.le_of_ble_eq_true rfl) (Nat.zero_le _) (Nat.zero_le _) (w2) ?_
    rintro _ N2 ⟨rfl, hN2⟩
    rw [hN2]
    show Wp _ 187 14 [(2, ((116 : Nat) : Int))] [(0, 0)] M _ _ _
    refine g_if (t := 25) lk_187_14 rfl (by first | (unfold pm_inI; omega) | exact pm_and_in _ _ | exact pm_shr_in _ _ | exact pm_or_in _ _ | exact pm_xor_in _ _ | exact pm_shl_in _ _ | exact pm_cmp_in _ _ | exact pm_b8_in _ | (unfold pm_inI; split <;> omega)) (fun h => absurd h (show ¬ (¬ (0 : Int) = (0 : Int)) by omega)) (fun _ => ?_)
    refine g_aload_n lk_187_17 rfl ?_
    refine g_iconst lk_187_18 ?_
    refine g_virtual (p := 116) (Qc := _) lk_187_19 rfl (Nat.le_of_ble_eq_true rfl) rfl rfl (lay.on (by decide) rfl) (Nat.le_of_ble_eq_true rfl) (Nat.le_of_ble_eq_true rfl) (Nat.zero_le _) (Nat.zero_le _) (w3) ?_
    rintro _ N3 ⟨rfl, hN3⟩
    rw [hN3]
    show Wp _ 187 22 [(2, ((116 : Nat) : Int))] [(0, 0)] M _ _ _
    refine g_if (t := 29) lk_187_22 rfl (by first | (unfold pm_inI; omega) | exact pm_and_in _ _ | exact pm_shr_in _ _ | exact pm_or_in _ _ | exact pm_xor_in _ _ | exact pm_shl_in _ _ | exact pm_cmp_in _ _ | exact pm_b8_in _ | (unfold pm_inI; split <;> omega)) (fun _ => ?_) (fun h => absurd (show (0 : Int) = (0 : Int) by omega) h)
    refine g_iconst lk_187_29 ?_
    refine g_ireturn lk_187_30 (fun _ => by omega) ?_
    exact ⟨by rw [if_neg (fun q => by rcases q with ⟨q1, q2 | q2 | q2⟩; exact e1 ⟨q1, q2⟩; exact e2 ⟨q1, q2⟩; exact e3 ⟨q1, q2⟩)], rfl⟩
theorem c_Mo_isName {d mc ms : Nat} {M : pm_M} (lay : Lay M) {n : Nat} {ch : Nat → Nat} {t : Tok} (hT : TkM M ch t) (hK : TkOK ch n t) :
    pm_E (d + 2) 188 [(2, ((116 : Nat) : Int))] M mc ms (fun ρ M' => ρ = some (0, if isNm ch t then 1 else 0) ∧ M' = M) := by
  have w0 := c_Mo_isNode (d := d) (mc := 0) (ms := 0) lay hT hK
  have w1 := c_Mo_isWord (d := d + 1) (mc := 0) (ms := 0) lay hT hK (w := 114292) (by omega) (l := wCost) (fun m hm => (w32_con hm).2.2.1)
  have w2 := c_Mo_isWord (d := d + 1) (mc := 0) (ms := 0) lay hT hK (w := 673957) (by omega) (l := wTree) (fun m hm => (w32_con hm).2.2.2.1)
  have f27 := hT.1
  have t4 := hK.1
  show Wp (d + 2) 188 0 [(2, ((116 : Nat) : Int))] [] M mc ms _
  by_cases e : t.1 = 1
  · have f27' : pm_ct M 116 27 = 1 := by rw [f27, e]; rfl
    by_cases e1 : isNd ch t
    · rw [if_pos e1] at w0
      refine g_aload_n lk_188_0 rfl ?_
      refine m_getfield (u := []) (M := M) lk_188_1 rfl (lay.on (by decide) rfl) (v := 1) f27' ?_
      refine g_iconst lk_188_4 ?_
      refine g_icmp (t := 37) lk_188_5 rfl (by first | (unfold pm_inI; omega) | exact pm_and_in _ _ | exact pm_shr_in _ _ | exact pm_or_in _ _ | exact pm_xor_in _ _ | exact pm_shl_in _ _ | exact pm_cmp_in _ _ | exact pm_b8_in _ | (unfold pm_inI; split <;> omega)) (by first | (unfold pm_inI; omega) | exact pm_and_in _ _ | exact pm_shr_in _ _ | exact pm_or_in _ _ | exact pm_xor_in _ _ | exact pm_shl_in _ _ | exact pm_cmp_in _ _ | exact pm_b8_in _ | (unfold pm_inI; split <;> omega)) (fun h => absurd h (show ¬ (¬ (1 : Int) = (1 : Int)) by omega)) (fun _ => ?_)
      refine g_aload_n lk_188_8 rfl ?_
      refine g_virtual (p := 116) (Qc := _) lk_188_9 rfl (Nat.le_of_ble_eq_true rfl) rfl rfl (lay.on (by decide) rfl) (Nat.le_of_ble_eq_true rfl) (Nat.le_of_ble_eq_true rfl) (Nat.zero_le _) (Nat.zero_le _) (w0) ?_
      rintro _ N1 ⟨rfl, hN1⟩
      rw [hN1]
      show Wp _ 188 12 [(2, ((116 : Nat) : Int))] [(0, 1)] M _ _ _
      refine g_if (t := 37) lk_188_12 rfl (by first | (unfold pm_inI; omega) | exact pm_and_in _ _ | exact pm_shr_in _ _ | exact pm_or_in _ _ | exact pm_xor_in _ _ | exact pm_shl_in _ _ | exact pm_cmp_in _ _ | exact pm_b8_in _ | (unfold pm_inI; split <;> omega)) (fun _ => ?_) (fun h => absurd (show ¬ (1 : Int) = (0 : Int) by omega) h)
      refine g_iconst lk_188_37 ?_
      refine g_ireturn lk_188_38 (fun _ => by omega) ?_
      exact ⟨by rw [if_neg (fun q => q.2.1 e1.2)], rfl⟩
    rw [if_neg e1] at w0
    by_cases e2 : t.1 = 1 ∧ twd ch t = wCost
    · rw [if_pos e2] at w1
      refine g_aload_n lk_188_0 rfl ?_
      refine m_getfield (u := []) (M := M) lk_188_1 rfl (lay.on (by decide) rfl) (v := 1) f27' ?_
      refine g_iconst lk_188_4 ?_
      refine g_icmp (t := 37) lk_188_5 rfl (by first | (unfold pm_inI; omega) | exact pm_and_in _ _ | exact pm_shr_in _ _ | exact pm_or_in _ _ | exact pm_xor_in _ _ | exact pm_shl_in _ _ | exact pm_cmp_in _ _ | exact pm_b8_in _ | (unfold pm_inI; split <;> omega)) (by first | (unfold pm_inI; omega) | exact pm_and_in _ _ | exact pm_shr_in _ _ | exact pm_or_in _ _ | exact pm_xor_in _ _ | exact pm_shl_in _ _ | exact pm_cmp_in _ _ | exact pm_b8_in _ | (unfold pm_inI; split <;> omega)) (fun h => absurd h (show ¬ (¬ (1 : Int) = (1 : Int)) by omega)) (fun _ => ?_)
      refine g_aload_n lk_188_8 rfl ?_
      refine g_virtual (p := 116) (Qc := _) lk_188_9 rfl (Nat.le_of_ble_eq_true rfl) rfl rfl (lay.on (by decide) rfl) (Nat.le_of_ble_eq_true rfl) (Nat.le_of_ble_eq_true rfl) (Nat.zero_le _) (Nat.zero_le _) (w0) ?_
      rintro _ N1 ⟨rfl, hN1⟩
      rw [hN1]
      show Wp _ 188 12 [(2, ((116 : Nat) : Int))] [(0, 0)] M _ _ _
      refine g_if (t := 37) lk_188_12 rfl (by first | (unfold pm_inI; omega) | exact pm_and_in _ _ | exact pm_shr_in _ _ | exact pm_or_in _ _ | exact pm_xor_in _ _ | exact pm_shl_in _ _ | exact pm_cmp_in _ _ | exact pm_b8_in _ | (unfold pm_inI; split <;> omega)) (fun h => absurd h (show ¬ (¬ (0 : Int) = (0 : Int)) by omega)) (fun _ => ?_)
      refine g_aload_n lk_188_15 rfl ?_
      refine g_ldc lk_188_16 ?_
      refine g_virtual (p := 116) (Qc := _) lk_188_18 rfl (Nat.le_of_ble_eq_true rfl) rfl rfl (lay.on (by decide) rfl) (Nat.le_of_ble_eq_true rfl) (Nat.le_of_ble_eq_true rfl) (Nat.zero_le _) (Nat.zero_le _) (w1) ?_
      rintro _ N2 ⟨rfl, hN2⟩
      rw [hN2]
      show Wp _ 188 21 [(2, ((116 : Nat) : Int))] [(0, 1)] M _ _ _
      refine g_if (t := 37) lk_188_21 rfl (by first | (unfold pm_inI; omega) | exact pm_and_in _ _ | exact pm_shr_in _ _ | exact pm_or_in _ _ | exact pm_xor_in _ _ | exact pm_shl_in _ _ | exact pm_cmp_in _ _ | exact pm_b8_in _ | (unfold pm_inI; split <;> omega)) (fun _ => ?_) (fun h => absurd (show ¬ (1 : Int) = (0 : Int) by omega) h)
      refine g_iconst lk_188_37 ?_
      refine g_ireturn lk_188_38 (fun _ => by omega) ?_
      exact ⟨by rw [if_neg (fun q => q.2.2.1 e2.2)], rfl⟩
    rw [if_neg e2] at w1
    by_cases e3 : t.1 = 1 ∧ twd ch t = wTree
    · rw [if_pos e3] at w2
      refine g_aload_n lk_188_0 rfl ?_
      refine m_getfield (u := []) (M := M) lk_188_1 rfl (lay.on (by decide) rfl) (v := 1) f27' ?_
      refine g_iconst lk_188_4 ?_
      refine g_icmp (t := 37) lk_188_5 rfl (by first | (unfold pm_inI; omega) | exact pm_and_in _ _ | exact pm_shr_in _ _ | exact pm_or_in _ _ | exact pm_xor_in _ _ | exact pm_shl_in _ _ | exact pm_cmp_in _ _ | exact pm_b8_in _ | (unfold pm_inI; split <;> omega)) (by first | (unfold pm_inI; omega) | exact pm_and_in _ _ | exact pm_shr_in _ _ | exact pm_or_in _ _ | exact pm_xor_in _ _ | exact pm_shl_in _ _ | exact pm_cmp_in _ _ | exact pm_b8_in _ | (unfold pm_inI; split <;> omega)) (fun h => absurd h (show ¬ (¬ (1 : Int) = (1 : Int)) by omega)) (fun _ => ?_)
      refine g_aload_n lk_188_8 rfl ?_
      refine g_virtual (p := 116) (Qc := _) lk_188_9 rfl (Nat.le_of_ble_eq_true rfl) rfl rfl (lay.on (by decide) rfl) (Nat.le_of_ble_eq_true rfl) (Nat.le_of_ble_eq_true rfl) (Nat.zero_le _) (Nat.zero_le _) (w0) ?_
      rintro _ N1 ⟨rfl, hN1⟩
      rw [hN1]
      show Wp _ 188 12 [(2, ((116 : Nat) : Int))] [(0, 0)] M _ _ _
      refine g_if (t := 37) lk_188_12 rfl (by first | (unfold pm_inI; omega) | exact pm_and_in _ _ | exact pm_shr_in _ _ | exact pm_or_in _ _ | exact pm_xor_in _ _ | exact pm_shl_in _ _ | exact pm_cmp_in _ _ | exact pm_b8_in _ | (unfold pm_inI; split <;> omega)) (fun h => absurd h (show ¬ (¬ (0 : Int) = (0 : Int)) by omega)) (fun _ => ?_)
      refine g_aload_n lk_188_15 rfl ?_
      refine g_ldc lk_188_16 ?_
      refine g_virtual (p := 116) (Qc := _) lk_188_18 rfl (Nat.le_of_ble_eq_true rfl) rfl rfl (lay.on (by decide) rfl) (Nat.le_of_ble_eq_true rfl) (Nat.le_of_ble_eq_true rfl) (Nat.zero_le _) (Nat.zero_le _) (w1) ?_
      rintro _ N2 ⟨rfl, hN2⟩
      rw [hN2]
      show Wp _ 188 21 [(2, ((116 : Nat) : Int))] [(0, 0)] M _ _ _
      refine g_if (t := 37) lk_188_21 rfl (by first | (unfold pm_inI; omega) | exact pm_and_in _ _ | exact pm_shr_in _ _ | exact pm_or_in _ _ | exact pm_xor_in _ _ | exact pm_shl_in _ _ | exact pm_cmp_in _ _ | exact pm_b8_in _ | (unfold pm_inI; split <;> omega)) (fun h => absurd h (show ¬ (¬ (0 : Int) = (0 : Int)) by omega)) (fun _ => ?_)
      refine g_aload_n lk_188_24 rfl ?_
      refine g_ldc lk_188_25 ?_
      refine g_virtual (p := 116) (Qc := _) lk_188_27 rfl (Nat.le_of_ble_eq_true rfl) rfl rfl (lay.on (by decide) rfl) (Nat.le_of_ble_eq_true rfl) (Nat.le_of_ble_eq_true rfl) (Nat.zero_le _) (Nat.zero_le _) (w2) ?_
      rintro _ N3 ⟨rfl, hN3⟩
      rw [hN3]
      show Wp _ 188 30 [(2, ((116 : Nat) : Int))] [(0, 1)] M _ _ _
      refine g_if (t := 37) lk_188_30 rfl (by first | (unfold pm_inI; omega) | exact pm_and_in _ _ | exact pm_shr_in _ _ | exact pm_or_in _ _ | exact pm_xor_in _ _ | exact pm_shl_in _ _ | exact pm_cmp_in _ _ | exact pm_b8_in _ | (unfold pm_inI; split <;> omega)) (fun _ => ?_) (fun h => absurd (show ¬ (1 : Int) = (0 : Int) by omega) h)
      refine g_iconst lk_188_37 ?_
      refine g_ireturn lk_188_38 (fun _ => by omega) ?_
      exact ⟨by rw [if_neg (fun q => q.2.2.2 e3.2)], rfl⟩
    · rw [if_neg e3] at w2
      refine g_aload_n lk_188_0 rfl ?_
      refine m_getfield (u := []) (M := M) lk_188_1 rfl (lay.on (by decide) rfl) (v := 1) f27' ?_
      refine g_iconst lk_188_4 ?_
      refine g_icmp (t := 37) lk_188_5 rfl (by first | (unfold pm_inI; omega) | exact pm_and_in _ _ | exact pm_shr_in _ _ | exact pm_or_in _ _ | exact pm_xor_in _ _ | exact pm_shl_in _ _ | exact pm_cmp_in _ _ | exact pm_b8_in _ | (unfold pm_inI; split <;> omega)) (by first | (unfold pm_inI; omega) | exact pm_and_in _ _ | exact pm_shr_in _ _ | exact pm_or_in _ _ | exact pm_xor_in _ _ | exact pm_shl_in _ _ | exact pm_cmp_in _ _ | exact pm_b8_in _ | (unfold pm_inI; split <;> omega)) (fun h => absurd h (show ¬ (¬ (1 : Int) = (1 : Int)) by omega)) (fun _ => ?_)
      refine g_aload_n lk_188_8 rfl ?_
      refine g_virtual (p := 116) (Qc := _) lk_188_9 rfl (Nat.le_of_ble_eq_true rfl) rfl rfl (lay.on (by decide) rfl) (Nat.le_of_ble_eq_true rfl) (Nat.le_of_ble_eq_true rfl) (Nat.zero_le _) (Nat.zero_le _) (w0) ?_
      rintro _ N1 ⟨rfl, hN1⟩
      rw [hN1]
      show Wp _ 188 12 [(2, ((116 : Nat) : Int))] [(0, 0)] M _ _ _
      refine g_if (t := 37) lk_188_12 rfl (by first | (unfold pm_inI; omega) | exact pm_and_in _ _ | exact pm_shr_in _ _ | exact pm_or_in _ _ | exact pm_xor_in _ _ | exact pm_shl_in _ _ | exact pm_cmp_in _ _ | exact pm_b8_in _ | (unfold pm_inI; split <;> omega)) (fun h => absurd h (show ¬ (¬ (0 : Int) = (0 : Int)) by omega)) (fun _ => ?_)
      refine g_aload_n lk_188_15 rfl ?_
      refine g_ldc lk_188_16 ?_
      refine g_virtual (p := 116) (Qc := _) lk_188_18 rfl (Nat.le_of_ble_eq_true rfl) rfl rfl (lay.on (by decide) rfl) (Nat.le_of_ble_eq_true rfl) (Nat.le_of_ble_eq_true rfl) (Nat.zero_le _) (Nat.zero_le _) (w1) ?_
      rintro _ N2 ⟨rfl, hN2⟩
      rw [hN2]
      show Wp _ 188 21 [(2, ((116 : Nat) : Int))] [(0, 0)] M _ _ _
      refine g_if (t := 37) lk_188_21 rfl (by first | (unfold pm_inI; omega) | exact pm_and_in _ _ | exact pm_shr_in _ _ | exact pm_or_in _ _ | exact pm_xor_in _ _ | exact pm_shl_in _ _ | exact pm_cmp_in _ _ | exact pm_b8_in _ | (unfold pm_inI; split <;> omega)) (fun h => absurd h (show ¬ (¬ (0 : Int) = (0 : Int)) by omega)) (fun _ => ?_)
      refine g_aload_n lk_188_24 rfl ?_
      refine g_ldc lk_188_25 ?_
      refine g_virtual (p := 116) (Qc := _) lk_188_27 rfl (Nat.le_of_ble_eq_true rfl) rfl rfl (lay.on (by decide) rfl) (Nat.le_of_ble_eq_true rfl) (Nat.le_of_ble_eq_true rfl) (Nat.zero_le _) (Nat.zero_le _) (w2) ?_
      rintro _ N3 ⟨rfl, hN3⟩
      rw [hN3]
      show Wp _ 188 30 [(2, ((116 : Nat) : Int))] [(0, 0)] M _ _ _
      refine g_if (t := 37) lk_188_30 rfl (by first | (unfold pm_inI; omega) | exact pm_and_in _ _ | exact pm_shr_in _ _ | exact pm_or_in _ _ | exact pm_xor_in _ _ | exact pm_shl_in _ _ | exact pm_cmp_in _ _ | exact pm_b8_in _ | (unfold pm_inI; split <;> omega)) (fun h => absurd h (show ¬ (¬ (0 : Int) = (0 : Int)) by omega)) (fun _ => ?_)
      refine g_iconst lk_188_33 ?_
      refine g_goto (t := 38) lk_188_34 rfl ?_
      refine g_ireturn lk_188_38 (fun _ => by omega) ?_
      exact ⟨by rw [if_pos ⟨e, fun q => e1 ⟨e, q⟩, fun q => e2 ⟨e, q⟩, fun q => e3 ⟨e, q⟩⟩], rfl⟩
  · obtain ⟨K, hk⟩ : ∃ K, K = t.1 := ⟨_, rfl⟩
    rw [← hk] at f27 t4 e
    refine g_aload_n lk_188_0 rfl ?_
    refine m_getfield (u := []) (M := M) lk_188_1 rfl (lay.on (by decide) rfl) (v := (K : Int)) f27 ?_
    refine g_iconst lk_188_4 ?_
    refine g_icmp (t := 37) lk_188_5 rfl (by first | (unfold pm_inI; omega) | exact pm_and_in _ _ | exact pm_shr_in _ _ | exact pm_or_in _ _ | exact pm_xor_in _ _ | exact pm_shl_in _ _ | exact pm_cmp_in _ _ | exact pm_b8_in _ | (unfold pm_inI; split <;> omega)) (by first | (unfold pm_inI; omega) | exact pm_and_in _ _ | exact pm_shr_in _ _ | exact pm_or_in _ _ | exact pm_xor_in _ _ | exact pm_shl_in _ _ | exact pm_cmp_in _ _ | exact pm_b8_in _ | (unfold pm_inI; split <;> omega)) (fun h1 => ?_) (fun h1 => ?_)
    · replace h1 : ¬ (K : Int) = 1 := h1
      refine g_iconst lk_188_37 ?_
      refine g_ireturn lk_188_38 (fun _ => by omega) ?_
      exact ⟨by rw [if_neg (fun q => e (by rw [hk]; exact q.1))], rfl⟩
    · replace h1 : ¬ (¬ (K : Int) = 1) := h1
      omega
/-- reading so far is good: no fault, a token -/
def GdM (M : pm_M) (ch : Nat → Nat) (n : Nat) (t : Tok) : Prop := TcM M n ch ∧ pm_ct M 116 31 = 0 ∧ TkM M ch t ∧ TkOK ch n t
/-- a fault was found -/
def BdM (M : pm_M) (e : Nat × Nat) : Prop := FtM M e ∧ 1 ≤ e.1 ∧ e.1 ≤ 5
theorem flt_r {w : Nat} {t : Tok} (h : 1 ≤ w ∧ w ≤ 5) : 1 ≤ (flt w t).1 ∧ (flt w t).1 ≤ 5 := by
  unfold flt
  show 1 ≤ (if t.1 = 4 then 1 else w) ∧ (if t.1 = 4 then 1 else w) ≤ 5
  split <;> omega
theorem GdM.next {M N : pm_M} {n : Nat} {ch : Nat → Nat} {t : Tok} (h : GdM M ch n t) (k : MF [] [25, 26, 27, 28] M N) (q : TkM N ch (lxt ch n t.2.2)) : GdM N ch n (lxt ch n t.2.2) :=
  ⟨h.1.mf k (by decide) (by decide), by rw [k.fd (by decide)]; exact h.2.1, q, (lxt_ok (ch := ch) h.2.2.2.2.2.1 h.1.1).1⟩
theorem BdM.mf {S K : List Nat} {M N : pm_M} {e : Nat × Nat} (h : BdM M e) (k : MF S K M N) (h1 : 31 ∉ K) (h2 : 32 ∉ K) : BdM N e := by
  unfold BdM FtM at h ⊢
  rw [k.fd h1, k.fd h2]; exact h
def ResM (N : pm_M) (ch : Nat → Nat) (n : Nat) (r : Sum (Nat × Nat) Tok) : Prop := match r with
  | .inl e => BdM N e
  | .inr t => GdM N ch n t
/-- what reading touches of the model's fields -/
abbrev rdK : List Nat := [25, 26, 27, 28, 31, 32]
theorem c_Mo_ends {d mc ms : Nat} {M : pm_M} (lay : Lay M) {n : Nat} {ch : Nat → Nat} {t : Tok} (h : GdM M ch n t) :
    pm_E (d + 2) 189 [(2, ((116 : Nat) : Int))] M mc ms (fun ρ M' => ρ = none ∧ Lay M' ∧ MF [] rdK M M' ∧ ResM M' ch n (pStop ch n t)) := by
  obtain ⟨g1, g2, g3, g4⟩ := id h
  have g2' : pm_ct M 116 31 = ((0 : Nat) : Int) := g2
  have ig := c_Mo_isGood (d := d + 1) (mc := 0) (ms := 0) lay g2' (by omega)
  rw [if_pos rfl] at ig
  have f27 := g3.1
  have t4 := g4.1
  unfold pStop
  show Wp (d + 2) 189 0 [(2, ((116 : Nat) : Int))] [] M mc ms _
  by_cases e : t.1 = 3
  · rw [if_pos e]
    have f27' : pm_ct M 116 27 = 3 := by rw [f27, e]; rfl
    have go := c_Mo_goOn (d := d) (mc := 0) (ms := 0) lay g1 g2 g3.2.2.1 g4.2.2.1
    refine g_aload_n lk_189_0 rfl ?_
    refine g_virtual (p := 116) (Qc := _) lk_189_1 rfl (Nat.le_of_ble_eq_true rfl) rfl rfl (lay.on (by decide) rfl) (Nat.le_of_ble_eq_true rfl) (Nat.le_of_ble_eq_true rfl) (Nat.zero_le _) (Nat.zero_le _) (ig) ?_
    rintro _ N1 ⟨rfl, hN1⟩
    rw [hN1]
    show Wp _ 189 4 [(2, ((116 : Nat) : Int))] [(0, 1)] M _ _ _
    refine g_if (t := 20) lk_189_4 rfl (by first | (unfold pm_inI; omega) | exact pm_and_in _ _ | exact pm_shr_in _ _ | exact pm_or_in _ _ | exact pm_xor_in _ _ | exact pm_shl_in _ _ | exact pm_cmp_in _ _ | exact pm_b8_in _ | (unfold pm_inI; split <;> omega)) (fun h => absurd h (show ¬ ((1 : Int) = (0 : Int)) by omega)) (fun _ => ?_)
    refine g_aload_n lk_189_7 rfl ?_
    refine m_getfield (u := []) (M := M) lk_189_8 rfl (lay.on (by decide) rfl) (v := 3) f27' ?_
    refine g_iconst lk_189_11 ?_
    refine g_icmp (t := 20) lk_189_12 rfl (by first | (unfold pm_inI; omega) | exact pm_and_in _ _ | exact pm_shr_in _ _ | exact pm_or_in _ _ | exact pm_xor_in _ _ | exact pm_shl_in _ _ | exact pm_cmp_in _ _ | exact pm_b8_in _ | (unfold pm_inI; split <;> omega)) (by first | (unfold pm_inI; omega) | exact pm_and_in _ _ | exact pm_shr_in _ _ | exact pm_or_in _ _ | exact pm_xor_in _ _ | exact pm_shl_in _ _ | exact pm_cmp_in _ _ | exact pm_b8_in _ | (unfold pm_inI; split <;> omega)) (fun _ => ?_) (fun h => absurd (show (3 : Int) = (3 : Int) by omega) h)
    refine g_aload_n lk_189_20 rfl ?_
    refine g_virtual (p := 116) (Qc := _) lk_189_21 rfl (Nat.le_of_ble_eq_true rfl) rfl rfl (lay.on (by decide) rfl) (Nat.le_of_ble_eq_true rfl) (Nat.le_of_ble_eq_true rfl) (Nat.zero_le _) (Nat.zero_le _) (go) ?_
    rintro _ K1 ⟨rfl, lay1, m1, k1⟩
    show Wp _ 189 24 [(2, ((116 : Nat) : Int))] [] K1 _ _ _
    refine g_return lk_189_24 ?_
    exact ⟨rfl, lay1, m1.mono (fun a q => q) (fun a q => by simp at q ⊢; omega), h.next m1 k1⟩
  · rw [if_neg e]
    have fa := c_Mo_fails (d := d + 1) (mc := 0) (ms := 0) lay g3 t4 g2 (w := 2)
    have fr := flt_r (w := 2) (t := t) (by omega)
    obtain ⟨K, hk⟩ : ∃ K, K = t.1 := ⟨_, rfl⟩
    rw [← hk] at f27 t4 e
    obtain ⟨Q, hQ⟩ : ∃ Q : pm_Q, Q = (fun ρ M' => ρ = none ∧ Lay M' ∧ MF [] rdK M M' ∧ ResM M' ch n (.inl (flt 2 t))) := ⟨_, rfl⟩
    rw [← hQ]
    have k20 : ∀ K1 : pm_M, Lay K1 → MF [] [31, 32] M K1 → FtM K1 (flt 2 t) → Wp (d + 2) 189 20 [(2, ((116 : Nat) : Int))] [] K1 mc ms Q := by
      intro K1 lay1 m1 ft1
      have gb := goOn_bad (d := d) (mc := 0) (ms := 0) lay1 ft1.1 (by omega) (by omega)
      refine g_aload_n lk_189_20 rfl ?_
      refine g_virtual (p := 116) (Qc := _) lk_189_21 rfl (Nat.le_of_ble_eq_true rfl) rfl rfl (lay1.on (by decide) rfl) (Nat.le_of_ble_eq_true rfl) (Nat.le_of_ble_eq_true rfl) (Nat.zero_le _) (Nat.zero_le _) (gb) ?_
      rintro _ K2 ⟨rfl, eK⟩
      rw [eK]
      show Wp _ 189 24 [(2, ((116 : Nat) : Int))] [] K1 _ _ _
      refine g_return lk_189_24 ?_
      rw [hQ]
      exact ⟨rfl, lay1, m1.mono (fun a q => q) (fun a q => by simp at q ⊢; omega), ft1, fr⟩
    refine g_aload_n lk_189_0 rfl ?_
    refine g_virtual (p := 116) (Qc := _) lk_189_1 rfl (Nat.le_of_ble_eq_true rfl) rfl rfl (lay.on (by decide) rfl) (Nat.le_of_ble_eq_true rfl) (Nat.le_of_ble_eq_true rfl) (Nat.zero_le _) (Nat.zero_le _) (ig) ?_
    rintro _ N1 ⟨rfl, hN1⟩
    rw [hN1]
    show Wp _ 189 4 [(2, ((116 : Nat) : Int))] [(0, 1)] M _ _ _
    refine g_if (t := 20) lk_189_4 rfl (by first | (unfold pm_inI; omega) | exact pm_and_in _ _ | exact pm_shr_in _ _ | exact pm_or_in _ _ | exact pm_xor_in _ _ | exact pm_shl_in _ _ | exact pm_cmp_in _ _ | exact pm_b8_in _ | (unfold pm_inI; split <;> omega)) (fun h => absurd h (show ¬ ((1 : Int) = (0 : Int)) by omega)) (fun _ => ?_)
    refine g_aload_n lk_189_7 rfl ?_
    refine m_getfield (u := []) (M := M) lk_189_8 rfl (lay.on (by decide) rfl) (v := (K : Int)) f27 ?_
    refine g_iconst lk_189_11 ?_
    refine g_icmp (t := 20) lk_189_12 rfl (by first | (unfold pm_inI; omega) | exact pm_and_in _ _ | exact pm_shr_in _ _ | exact pm_or_in _ _ | exact pm_xor_in _ _ | exact pm_shl_in _ _ | exact pm_cmp_in _ _ | exact pm_b8_in _ | (unfold pm_inI; split <;> omega)) (by first | (unfold pm_inI; omega) | exact pm_and_in _ _ | exact pm_shr_in _ _ | exact pm_or_in _ _ | exact pm_xor_in _ _ | exact pm_shl_in _ _ | exact pm_cmp_in _ _ | exact pm_b8_in _ | (unfold pm_inI; split <;> omega)) (fun h2 => ?_) (fun h2 => ?_)
    · replace h2 : (K : Int) = 3 := h2
      omega
    · replace h2 : ¬ ((K : Int) = 3) := h2
      refine g_aload_n lk_189_15 rfl ?_
      refine g_iconst lk_189_16 ?_
      refine g_virtual (p := 116) (Qc := _) lk_189_17 rfl (Nat.le_of_ble_eq_true rfl) rfl rfl (lay.on (by decide) rfl) (Nat.le_of_ble_eq_true rfl) (Nat.le_of_ble_eq_true rfl) (Nat.zero_le _) (Nat.zero_le _) (fa) ?_
      rintro _ K1 ⟨rfl, lay1, m1, ft1⟩
      show Wp _ 189 20 [(2, ((116 : Nat) : Int))] [] K1 _ _ _
      exact k20 K1 lay1 m1 ft1
theorem c_Mo_endsB {d mc ms : Nat} {M : pm_M} (lay : Lay M) {e : Nat × Nat} (h : BdM M e) :
    pm_E (d + 2) 189 [(2, ((116 : Nat) : Int))] M mc ms (fun ρ M' => ρ = none ∧ M' = M) := by
  obtain ⟨⟨g1, _⟩, g2, g3⟩ := h
  have ig := c_Mo_isGood (d := d + 1) (mc := 0) (ms := 0) lay g1 (by omega)
  rw [if_neg (by omega)] at ig
  have gb := goOn_bad (d := d) (mc := 0) (ms := 0) lay g1 (by omega) (by omega)
  show Wp (d + 2) 189 0 [(2, ((116 : Nat) : Int))] [] M mc ms _
  refine g_aload_n lk_189_0 rfl ?_
  refine g_virtual (p := 116) (Qc := _) lk_189_1 rfl (Nat.le_of_ble_eq_true rfl) rfl rfl (lay.on (by decide) rfl) (Nat.le_of_ble_eq_true rfl) (Nat.le_of_ble_eq_true rfl) (Nat.zero_le _) (Nat.zero_le _) (ig) ?_
  rintro _ N1 ⟨rfl, hN1⟩
  rw [hN1]
  show Wp _ 189 4 [(2, ((116 : Nat) : Int))] [(0, 0)] M _ _ _
  refine g_if (t := 20) lk_189_4 rfl (by first | (unfold pm_inI; omega) | exact pm_and_in _ _ | exact pm_shr_in _ _ | exact pm_or_in _ _ | exact pm_xor_in _ _ | exact pm_shl_in _ _ | exact pm_cmp_in _ _ | exact pm_b8_in _ | (unfold pm_inI; split <;> omega)) (fun _ => ?_) (fun h => absurd (show (0 : Int) = (0 : Int) by omega) h)
  refine g_aload_n lk_189_20 rfl ?_
  refine g_virtual (p := 116) (Qc := _) lk_189_21 rfl (Nat.le_of_ble_eq_true rfl) rfl rfl (lay.on (by decide) rfl) (Nat.le_of_ble_eq_true rfl) (Nat.le_of_ble_eq_true rfl) (Nat.zero_le _) (Nat.zero_le _) (gb) ?_
  rintro _ K2 ⟨rfl, eK⟩
  rw [eK]
  show Wp _ 189 24 [(2, ((116 : Nat) : Int))] [] M _ _ _
  refine g_return lk_189_24 ?_
  exact ⟨rfl, rfl⟩
set_option maxHeartbeats 4000000 in
theorem c_Mo_readOne {d mc ms : Nat} {M : pm_M} (lay : Lay M) {n : Nat} {ch : Nat → Nat} {t : Tok} (h : GdM M ch n t) {l : Nat} (hl : l ≤ 1) :
    pm_E (d + 2) 191 [(2, ((116 : Nat) : Int)), (0, (l : Int))] M mc ms (fun ρ M' => Lay M' ∧ MF [] rdK M M' ∧ ((∃ e, pNum ch l t = .inl e ∧ BdM M' e ∧ ∃ z : Int, ρ = some (0, z)) ∨ ∃ v : Nat, pNum ch l t = .inr v ∧ v ≤ 9 ∧ l ≤ v ∧ ρ = some (0, (v : Int)) ∧ GdM M' ch n (lxt ch n t.2.2))) := by
  obtain ⟨Q, hQ⟩ : ∃ Q : pm_Q, Q = (fun ρ M' => Lay M' ∧ MF [] rdK M M' ∧ ((∃ e, pNum ch l t = .inl e ∧ BdM M' e ∧ ∃ z : Int, ρ = some (0, z)) ∨ ∃ v : Nat, pNum ch l t = .inr v ∧ v ≤ 9 ∧ l ≤ v ∧ ρ = some (0, (v : Int)) ∧ GdM M' ch n (lxt ch n t.2.2))) := ⟨_, rfl⟩
  rw [← hQ]
  obtain ⟨g1, g2, g3, g4⟩ := id h
  obtain ⟨t4, k2, k3, k4, k5, k6⟩ := id g4
  have n5 := g1.1
  have g2' : pm_ct M 116 31 = ((0 : Nat) : Int) := g2
  have ig := c_Mo_isGood (d := d + 1) (mc := 0) (ms := 0) lay g2' (by omega)
  rw [if_pos rfl] at ig
  obtain ⟨f27, f25, f26, _⟩ := id g3
  have ba := c_Mo_byteAt (d := d + 1) (mc := 0) (ms := 0) lay g1 (k := t.2.1) (by omega)
  have cr := chv_r g1 t.2.1
  have m31 : ∀ {A B : pm_M}, MF [] [31, 32] A B → MF [] rdK A B := fun m => m.mono (fun a q => q) (fun a q => by simp at q ⊢; omega)
  have m25 : ∀ {A B : pm_M}, MF [] [25, 26, 27, 28] A B → MF [] rdK A B := fun m => m.mono (fun a q => q) (fun a q => by simp at q ⊢; omega)
  have bad : ∀ (e : Nat × Nat) (y : Int) (K1 : pm_M), pNum ch l t = .inl e → 1 ≤ e.1 ∧ e.1 ≤ 5 → Lay K1 → MF [] [31, 32] M K1 → FtM K1 e → Wp (d + 2) 191 71 [(2, ((116 : Nat) : Int)), (0, (l : Int)), (0, y)] [] K1 mc ms Q := by
    intro e y K1 hp he lay1 m1 ft1
    have gb := goOn_bad (d := d) (mc := 0) (ms := 0) lay1 ft1.1 (by omega) (by omega)
    refine g_aload_n lk_191_71 rfl ?_
    refine g_virtual (p := 116) (Qc := _) lk_191_72 rfl (Nat.le_of_ble_eq_true rfl) rfl rfl (lay1.on (by decide) rfl) (Nat.le_of_ble_eq_true rfl) (Nat.le_of_ble_eq_true rfl) (Nat.zero_le _) (Nat.zero_le _) (gb) ?_
    rintro _ K2 ⟨rfl, eK⟩
    rw [eK]
    show Wp _ 191 75 [(2, ((116 : Nat) : Int)), (0, (l : Int)), (0, y)] [] K1 _ _ _
    refine g_iload_n lk_191_75 rfl ?_
    refine g_bipush lk_191_76 ?_
    refine g_isub lk_191_78 ?_
    refine g_ireturn lk_191_79 (fun h => absurd h (by decide)) ?_
    rw [hQ]
    exact ⟨lay1, m31 m1, Or.inl ⟨e, hp, ⟨ft1, he⟩, _, rfl⟩⟩
  show Wp (d + 2) 191 0 [(2, ((116 : Nat) : Int)), (0, (l : Int)), (9, 0)] [] M mc ms Q
  by_cases e : t.1 = 2
  · have lt := k5 (by omega)
    have six := (k6 (Or.inr e)).1
    have f27' : pm_ct M 116 27 = 2 := by rw [f27, e]; rfl
    have rc := run_ch g4 e (i := t.2.1) (by omega) lt
    have cv : chv ch n t.2.1 = (ch t.2.1 : Int) := by omega
    rw [cv] at ba
    have fa4 := c_Mo_fails (d := d + 1) (mc := 0) (ms := 0) lay g3 t4 g2 (w := 4)
    have fr4 := flt_r (w := 4) (t := t) (by omega)
    have hp : pNum ch l t = if t.2.2 = t.2.1 + 1 ∧ 48 + l ≤ ch t.2.1 then .inr (ch t.2.1 - 48) else .inl (flt 4 t) := by unfold pNum; rw [if_pos e]
    have go := c_Mo_goOn (d := d) (mc := 0) (ms := 0) lay g1 g2 g3.2.2.1 g4.2.2.1
    obtain ⟨a, ha⟩ : ∃ a, a = t.2.1 := ⟨_, rfl⟩
    obtain ⟨b, hb⟩ : ∃ b, b = t.2.2 := ⟨_, rfl⟩
    obtain ⟨c, hc⟩ : ∃ c, c = ch t.2.1 := ⟨_, rfl⟩
    rw [← hc] at ba rc hp
    rw [← ha] at ba f25 hp lt six k2
    rw [← hb] at f26 hp lt six k2 k3
    by_cases q : b = a + 1 ∧ 48 + l ≤ c
    · rw [if_pos q] at hp
      have ev : (c : Int) - 48 = ((c - 48 : Nat) : Int) := by omega
      refine g_aload_n lk_191_0 rfl ?_
      refine g_aload_n lk_191_1 rfl ?_
      refine m_getfield (u := []) (M := M) lk_191_2 rfl (lay.on (by decide) rfl) (v := (a : Int)) f25 ?_
      refine g_virtual (p := 116) (Qc := _) lk_191_5 rfl (Nat.le_of_ble_eq_true rfl) rfl rfl (lay.on (by decide) rfl) (Nat.le_of_ble_eq_true rfl) (Nat.le_of_ble_eq_true rfl) (Nat.zero_le _) (Nat.zero_le _) (ba) ?_
      rintro _ N1 ⟨rfl, hN1⟩
      rw [hN1]
      show Wp _ 191 8 [(2, ((116 : Nat) : Int)), (0, (l : Int)), (9, 0)] [(0, (c : Int))] M _ _ _
      refine g_istore_n (ls' := [(2, ((116 : Nat) : Int)), (0, (l : Int)), (0, (c : Int))]) lk_191_8 rfl rfl ?_
      refine g_aload_n lk_191_9 rfl ?_
      refine g_virtual (p := 116) (Qc := _) lk_191_10 rfl (Nat.le_of_ble_eq_true rfl) rfl rfl (lay.on (by decide) rfl) (Nat.le_of_ble_eq_true rfl) (Nat.le_of_ble_eq_true rfl) (Nat.zero_le _) (Nat.zero_le _) (ig) ?_
      rintro _ N2 ⟨rfl, hN2⟩
      rw [hN2]
      show Wp _ 191 13 [(2, ((116 : Nat) : Int)), (0, (l : Int)), (0, (c : Int))] [(0, 1)] M _ _ _
      refine g_if (t := 32) lk_191_13 rfl (by first | (unfold pm_inI; omega) | exact pm_and_in _ _ | exact pm_shr_in _ _ | exact pm_or_in _ _ | exact pm_xor_in _ _ | exact pm_shl_in _ _ | exact pm_cmp_in _ _ | exact pm_b8_in _ | (unfold pm_inI; split <;> omega)) (fun h => absurd h (show ¬ ((1 : Int) = (0 : Int)) by omega)) (fun _ => ?_)
      refine g_aload_n lk_191_16 rfl ?_
      refine m_getfield (u := []) (M := M) lk_191_17 rfl (lay.on (by decide) rfl) (v := 2) f27' ?_
      refine g_iconst lk_191_20 ?_
      refine g_icmp (t := 32) lk_191_21 rfl (by first | (unfold pm_inI; omega) | exact pm_and_in _ _ | exact pm_shr_in _ _ | exact pm_or_in _ _ | exact pm_xor_in _ _ | exact pm_shl_in _ _ | exact pm_cmp_in _ _ | exact pm_b8_in _ | (unfold pm_inI; split <;> omega)) (by first | (unfold pm_inI; omega) | exact pm_and_in _ _ | exact pm_shr_in _ _ | exact pm_or_in _ _ | exact pm_xor_in _ _ | exact pm_shl_in _ _ | exact pm_cmp_in _ _ | exact pm_b8_in _ | (unfold pm_inI; split <;> omega)) (fun _ => ?_) (fun h => absurd (show (2 : Int) = (2 : Int) by omega) h)
      refine g_aload_n lk_191_32 rfl ?_
      refine g_virtual (p := 116) (Qc := _) lk_191_33 rfl (Nat.le_of_ble_eq_true rfl) rfl rfl (lay.on (by decide) rfl) (Nat.le_of_ble_eq_true rfl) (Nat.le_of_ble_eq_true rfl) (Nat.zero_le _) (Nat.zero_le _) (ig) ?_
      rintro _ N3 ⟨rfl, hN3⟩
      rw [hN3]
      show Wp _ 191 36 [(2, ((116 : Nat) : Int)), (0, (l : Int)), (0, (c : Int))] [(0, 1)] M _ _ _
      refine g_if (t := 71) lk_191_36 rfl (by first | (unfold pm_inI; omega) | exact pm_and_in _ _ | exact pm_shr_in _ _ | exact pm_or_in _ _ | exact pm_xor_in _ _ | exact pm_shl_in _ _ | exact pm_cmp_in _ _ | exact pm_b8_in _ | (unfold pm_inI; split <;> omega)) (fun h => absurd h (show ¬ ((1 : Int) = (0 : Int)) by omega)) (fun _ => ?_)
      refine g_aload_n lk_191_39 rfl ?_
      refine m_getfield (u := []) (M := M) lk_191_40 rfl (lay.on (by decide) rfl) (v := (b : Int)) f26 ?_
      refine g_aload_n lk_191_43 rfl ?_
      refine m_getfield (u := []) (M := M) lk_191_44 rfl (lay.on (by decide) rfl) (v := (a : Int)) f25 ?_
      refine g_isub lk_191_47 ?_
      refine g_iconst lk_191_48 ?_
      refine g_icmp (t := 66) lk_191_49 rfl (by first | (unfold pm_inI; omega) | exact pm_and_in _ _ | exact pm_shr_in _ _ | exact pm_or_in _ _ | exact pm_xor_in _ _ | exact pm_shl_in _ _ | exact pm_cmp_in _ _ | exact pm_b8_in _ | (unfold pm_inI; split <;> omega)) (by first | (unfold pm_inI; omega) | exact pm_and_in _ _ | exact pm_shr_in _ _ | exact pm_or_in _ _ | exact pm_xor_in _ _ | exact pm_shl_in _ _ | exact pm_cmp_in _ _ | exact pm_b8_in _ | (unfold pm_inI; split <;> omega)) (fun h4 => ?_) (fun h4 => ?_)
      · replace h4 : 1 < ((b : Int) - (a : Int)) := h4
        omega
      · replace h4 : ¬ (1 < ((b : Int) - (a : Int))) := h4
        refine g_iload_n lk_191_52 rfl ?_
        refine g_bipush lk_191_53 ?_
        refine g_icmp (t := 66) lk_191_55 rfl (by first | (unfold pm_inI; omega) | exact pm_and_in _ _ | exact pm_shr_in _ _ | exact pm_or_in _ _ | exact pm_xor_in _ _ | exact pm_shl_in _ _ | exact pm_cmp_in _ _ | exact pm_b8_in _ | (unfold pm_inI; split <;> omega)) (by first | (unfold pm_inI; omega) | exact pm_and_in _ _ | exact pm_shr_in _ _ | exact pm_or_in _ _ | exact pm_xor_in _ _ | exact pm_shl_in _ _ | exact pm_cmp_in _ _ | exact pm_b8_in _ | (unfold pm_inI; split <;> omega)) (fun h5 => ?_) (fun h5 => ?_)
        · replace h5 : (c : Int) = 46 := h5
          omega
        · replace h5 : ¬ ((c : Int) = 46) := h5
          refine g_iload_n lk_191_58 rfl ?_
          refine g_bipush lk_191_59 ?_
          refine g_isub lk_191_61 ?_
          refine g_iload_n lk_191_62 rfl ?_
          refine g_icmp (t := 71) lk_191_63 rfl (by first | (unfold pm_inI; omega) | exact pm_and_in _ _ | exact pm_shr_in _ _ | exact pm_or_in _ _ | exact pm_xor_in _ _ | exact pm_shl_in _ _ | exact pm_cmp_in _ _ | exact pm_b8_in _ | (unfold pm_inI; split <;> omega)) (by first | (unfold pm_inI; omega) | exact pm_and_in _ _ | exact pm_shr_in _ _ | exact pm_or_in _ _ | exact pm_xor_in _ _ | exact pm_shl_in _ _ | exact pm_cmp_in _ _ | exact pm_b8_in _ | (unfold pm_inI; split <;> omega)) (fun h6 => ?_) (fun h6 => ?_)
          · replace h6 : (l : Int) ≤ ((c : Int) - 48) := h6
            refine g_aload_n lk_191_71 rfl ?_
            refine g_virtual (p := 116) (Qc := _) lk_191_72 rfl (Nat.le_of_ble_eq_true rfl) rfl rfl (lay.on (by decide) rfl) (Nat.le_of_ble_eq_true rfl) (Nat.le_of_ble_eq_true rfl) (Nat.zero_le _) (Nat.zero_le _) (go) ?_
            rintro _ K1 ⟨rfl, lay1, m1, k1⟩
            show Wp _ 191 75 [(2, ((116 : Nat) : Int)), (0, (l : Int)), (0, (c : Int))] [] K1 _ _ _
            refine g_iload_n lk_191_75 rfl ?_
            refine g_bipush lk_191_76 ?_
            refine g_isub lk_191_78 ?_
            refine g_top (z := ((c : Int) - 48)) (z' := ((c - 48 : Nat) : Int)) (ev) ?_
            refine g_ireturn lk_191_79 (fun h => absurd h (by decide)) ?_
            rw [hQ]
            exact ⟨lay1, m25 m1, Or.inr ⟨c - 48, hp, by omega, by omega, rfl, h.next m1 k1⟩⟩
          · replace h6 : ¬ ((l : Int) ≤ ((c : Int) - 48)) := h6
            omega
    · rw [if_neg q] at hp
      have bd := fun y K1 => bad (flt 4 t) y K1 hp fr4
      refine g_aload_n lk_191_0 rfl ?_
      refine g_aload_n lk_191_1 rfl ?_
      refine m_getfield (u := []) (M := M) lk_191_2 rfl (lay.on (by decide) rfl) (v := (a : Int)) f25 ?_
      refine g_virtual (p := 116) (Qc := _) lk_191_5 rfl (Nat.le_of_ble_eq_true rfl) rfl rfl (lay.on (by decide) rfl) (Nat.le_of_ble_eq_true rfl) (Nat.le_of_ble_eq_true rfl) (Nat.zero_le _) (Nat.zero_le _) (ba) ?_
      rintro _ N1 ⟨rfl, hN1⟩
      rw [hN1]
      show Wp _ 191 8 [(2, ((116 : Nat) : Int)), (0, (l : Int)), (9, 0)] [(0, (c : Int))] M _ _ _
      refine g_istore_n (ls' := [(2, ((116 : Nat) : Int)), (0, (l : Int)), (0, (c : Int))]) lk_191_8 rfl rfl ?_
      refine g_aload_n lk_191_9 rfl ?_
      refine g_virtual (p := 116) (Qc := _) lk_191_10 rfl (Nat.le_of_ble_eq_true rfl) rfl rfl (lay.on (by decide) rfl) (Nat.le_of_ble_eq_true rfl) (Nat.le_of_ble_eq_true rfl) (Nat.zero_le _) (Nat.zero_le _) (ig) ?_
      rintro _ N2 ⟨rfl, hN2⟩
      rw [hN2]
      show Wp _ 191 13 [(2, ((116 : Nat) : Int)), (0, (l : Int)), (0, (c : Int))] [(0, 1)] M _ _ _
      refine g_if (t := 32) lk_191_13 rfl (by first | (unfold pm_inI; omega) | exact pm_and_in _ _ | exact pm_shr_in _ _ | exact pm_or_in _ _ | exact pm_xor_in _ _ | exact pm_shl_in _ _ | exact pm_cmp_in _ _ | exact pm_b8_in _ | (unfold pm_inI; split <;> omega)) (fun h => absurd h (show ¬ ((1 : Int) = (0 : Int)) by omega)) (fun _ => ?_)
      refine g_aload_n lk_191_16 rfl ?_
      refine m_getfield (u := []) (M := M) lk_191_17 rfl (lay.on (by decide) rfl) (v := 2) f27' ?_
      refine g_iconst lk_191_20 ?_
      refine g_icmp (t := 32) lk_191_21 rfl (by first | (unfold pm_inI; omega) | exact pm_and_in _ _ | exact pm_shr_in _ _ | exact pm_or_in _ _ | exact pm_xor_in _ _ | exact pm_shl_in _ _ | exact pm_cmp_in _ _ | exact pm_b8_in _ | (unfold pm_inI; split <;> omega)) (by first | (unfold pm_inI; omega) | exact pm_and_in _ _ | exact pm_shr_in _ _ | exact pm_or_in _ _ | exact pm_xor_in _ _ | exact pm_shl_in _ _ | exact pm_cmp_in _ _ | exact pm_b8_in _ | (unfold pm_inI; split <;> omega)) (fun _ => ?_) (fun h => absurd (show (2 : Int) = (2 : Int) by omega) h)
      refine g_aload_n lk_191_32 rfl ?_
      refine g_virtual (p := 116) (Qc := _) lk_191_33 rfl (Nat.le_of_ble_eq_true rfl) rfl rfl (lay.on (by decide) rfl) (Nat.le_of_ble_eq_true rfl) (Nat.le_of_ble_eq_true rfl) (Nat.zero_le _) (Nat.zero_le _) (ig) ?_
      rintro _ N3 ⟨rfl, hN3⟩
      rw [hN3]
      show Wp _ 191 36 [(2, ((116 : Nat) : Int)), (0, (l : Int)), (0, (c : Int))] [(0, 1)] M _ _ _
      refine g_if (t := 71) lk_191_36 rfl (by first | (unfold pm_inI; omega) | exact pm_and_in _ _ | exact pm_shr_in _ _ | exact pm_or_in _ _ | exact pm_xor_in _ _ | exact pm_shl_in _ _ | exact pm_cmp_in _ _ | exact pm_b8_in _ | (unfold pm_inI; split <;> omega)) (fun h => absurd h (show ¬ ((1 : Int) = (0 : Int)) by omega)) (fun _ => ?_)
      refine g_aload_n lk_191_39 rfl ?_
      refine m_getfield (u := []) (M := M) lk_191_40 rfl (lay.on (by decide) rfl) (v := (b : Int)) f26 ?_
      refine g_aload_n lk_191_43 rfl ?_
      refine m_getfield (u := []) (M := M) lk_191_44 rfl (lay.on (by decide) rfl) (v := (a : Int)) f25 ?_
      refine g_isub lk_191_47 ?_
      refine g_iconst lk_191_48 ?_
      refine g_icmp (t := 66) lk_191_49 rfl (by first | (unfold pm_inI; omega) | exact pm_and_in _ _ | exact pm_shr_in _ _ | exact pm_or_in _ _ | exact pm_xor_in _ _ | exact pm_shl_in _ _ | exact pm_cmp_in _ _ | exact pm_b8_in _ | (unfold pm_inI; split <;> omega)) (by first | (unfold pm_inI; omega) | exact pm_and_in _ _ | exact pm_shr_in _ _ | exact pm_or_in _ _ | exact pm_xor_in _ _ | exact pm_shl_in _ _ | exact pm_cmp_in _ _ | exact pm_b8_in _ | (unfold pm_inI; split <;> omega)) (fun h4 => ?_) (fun h4 => ?_)
      · replace h4 : 1 < ((b : Int) - (a : Int)) := h4
        refine g_aload_n lk_191_66 rfl ?_
        refine g_iconst lk_191_67 ?_
        refine g_virtual (p := 116) (Qc := _) lk_191_68 rfl (Nat.le_of_ble_eq_true rfl) rfl rfl (lay.on (by decide) rfl) (Nat.le_of_ble_eq_true rfl) (Nat.le_of_ble_eq_true rfl) (Nat.zero_le _) (Nat.zero_le _) (fa4) ?_
        rintro _ K1 ⟨rfl, lay1, m1, ft1⟩
        show Wp _ 191 71 [(2, ((116 : Nat) : Int)), (0, (l : Int)), (0, (c : Int))] [] K1 _ _ _
        first | exact bd _ K1 lay1 m1 ft1 | (exfalso; omega)
      · replace h4 : ¬ (1 < ((b : Int) - (a : Int))) := h4
        refine g_iload_n lk_191_52 rfl ?_
        refine g_bipush lk_191_53 ?_
        refine g_icmp (t := 66) lk_191_55 rfl (by first | (unfold pm_inI; omega) | exact pm_and_in _ _ | exact pm_shr_in _ _ | exact pm_or_in _ _ | exact pm_xor_in _ _ | exact pm_shl_in _ _ | exact pm_cmp_in _ _ | exact pm_b8_in _ | (unfold pm_inI; split <;> omega)) (by first | (unfold pm_inI; omega) | exact pm_and_in _ _ | exact pm_shr_in _ _ | exact pm_or_in _ _ | exact pm_xor_in _ _ | exact pm_shl_in _ _ | exact pm_cmp_in _ _ | exact pm_b8_in _ | (unfold pm_inI; split <;> omega)) (fun h5 => ?_) (fun h5 => ?_)
        · replace h5 : (c : Int) = 46 := h5
          refine g_aload_n lk_191_66 rfl ?_
          refine g_iconst lk_191_67 ?_
          refine g_virtual (p := 116) (Qc := _) lk_191_68 rfl (Nat.le_of_ble_eq_true rfl) rfl rfl (lay.on (by decide) rfl) (Nat.le_of_ble_eq_true rfl) (Nat.le_of_ble_eq_true rfl) (Nat.zero_le _) (Nat.zero_le _) (fa4) ?_
          rintro _ K1 ⟨rfl, lay1, m1, ft1⟩
          show Wp _ 191 71 [(2, ((116 : Nat) : Int)), (0, (l : Int)), (0, (c : Int))] [] K1 _ _ _
          first | exact bd _ K1 lay1 m1 ft1 | (exfalso; omega)
        · replace h5 : ¬ ((c : Int) = 46) := h5
          refine g_iload_n lk_191_58 rfl ?_
          refine g_bipush lk_191_59 ?_
          refine g_isub lk_191_61 ?_
          refine g_iload_n lk_191_62 rfl ?_
          refine g_icmp (t := 71) lk_191_63 rfl (by first | (unfold pm_inI; omega) | exact pm_and_in _ _ | exact pm_shr_in _ _ | exact pm_or_in _ _ | exact pm_xor_in _ _ | exact pm_shl_in _ _ | exact pm_cmp_in _ _ | exact pm_b8_in _ | (unfold pm_inI; split <;> omega)) (by first | (unfold pm_inI; omega) | exact pm_and_in _ _ | exact pm_shr_in _ _ | exact pm_or_in _ _ | exact pm_xor_in _ _ | exact pm_shl_in _ _ | exact pm_cmp_in _ _ | exact pm_b8_in _ | (unfold pm_inI; split <;> omega)) (fun h6 => ?_) (fun h6 => ?_)
          · replace h6 : (l : Int) ≤ ((c : Int) - 48) := h6
            first | exact bd _ K1 lay1 m1 ft1 | (exfalso; omega)
          · replace h6 : ¬ ((l : Int) ≤ ((c : Int) - 48)) := h6
            refine g_aload_n lk_191_66 rfl ?_
            refine g_iconst lk_191_67 ?_
            refine g_virtual (p := 116) (Qc := _) lk_191_68 rfl (Nat.le_of_ble_eq_true rfl) rfl rfl (lay.on (by decide) rfl) (Nat.le_of_ble_eq_true rfl) (Nat.le_of_ble_eq_true rfl) (Nat.zero_le _) (Nat.zero_le _) (fa4) ?_
            rintro _ K1 ⟨rfl, lay1, m1, ft1⟩
            show Wp _ 191 71 [(2, ((116 : Nat) : Int)), (0, (l : Int)), (0, (c : Int))] [] K1 _ _ _
            first | exact bd _ K1 lay1 m1 ft1 | (exfalso; omega)
  · have hp : pNum ch l t = .inl (flt 2 t) := by unfold pNum; rw [if_neg e]
    have fa2 := c_Mo_fails (d := d + 1) (mc := 0) (ms := 0) lay g3 t4 g2 (w := 2)
    have fr2 := flt_r (w := 2) (t := t) (by omega)
    have bd := fun y K1 => bad (flt 2 t) y K1 hp fr2
    obtain ⟨y, hy⟩ : ∃ y, y = chv ch n t.2.1 := ⟨_, rfl⟩
    rw [← hy] at ba
    obtain ⟨a, ha⟩ : ∃ a, a = t.2.1 := ⟨_, rfl⟩
    rw [← ha] at ba f25
    obtain ⟨K, hk⟩ : ∃ K, K = t.1 := ⟨_, rfl⟩
    rw [← hk] at f27 t4 e
    refine g_aload_n lk_191_0 rfl ?_
    refine g_aload_n lk_191_1 rfl ?_
    refine m_getfield (u := []) (M := M) lk_191_2 rfl (lay.on (by decide) rfl) (v := (a : Int)) f25 ?_
    refine g_virtual (p := 116) (Qc := _) lk_191_5 rfl (Nat.le_of_ble_eq_true rfl) rfl rfl (lay.on (by decide) rfl) (Nat.le_of_ble_eq_true rfl) (Nat.le_of_ble_eq_true rfl) (Nat.zero_le _) (Nat.zero_le _) (ba) ?_
    rintro _ N1 ⟨rfl, hN1⟩
    rw [hN1]
    show Wp _ 191 8 [(2, ((116 : Nat) : Int)), (0, (l : Int)), (9, 0)] [(0, y)] M _ _ _
    refine g_istore_n (ls' := [(2, ((116 : Nat) : Int)), (0, (l : Int)), (0, y)]) lk_191_8 rfl rfl ?_
    refine g_aload_n lk_191_9 rfl ?_
    refine g_virtual (p := 116) (Qc := _) lk_191_10 rfl (Nat.le_of_ble_eq_true rfl) rfl rfl (lay.on (by decide) rfl) (Nat.le_of_ble_eq_true rfl) (Nat.le_of_ble_eq_true rfl) (Nat.zero_le _) (Nat.zero_le _) (ig) ?_
    rintro _ N2 ⟨rfl, hN2⟩
    rw [hN2]
    show Wp _ 191 13 [(2, ((116 : Nat) : Int)), (0, (l : Int)), (0, y)] [(0, 1)] M _ _ _
    refine g_if (t := 32) lk_191_13 rfl (by first | (unfold pm_inI; omega) | exact pm_and_in _ _ | exact pm_shr_in _ _ | exact pm_or_in _ _ | exact pm_xor_in _ _ | exact pm_shl_in _ _ | exact pm_cmp_in _ _ | exact pm_b8_in _ | (unfold pm_inI; split <;> omega)) (fun h => absurd h (show ¬ ((1 : Int) = (0 : Int)) by omega)) (fun _ => ?_)
    refine g_aload_n lk_191_16 rfl ?_
    refine m_getfield (u := []) (M := M) lk_191_17 rfl (lay.on (by decide) rfl) (v := (K : Int)) f27 ?_
    refine g_iconst lk_191_20 ?_
    refine g_icmp (t := 32) lk_191_21 rfl (by first | (unfold pm_inI; omega) | exact pm_and_in _ _ | exact pm_shr_in _ _ | exact pm_or_in _ _ | exact pm_xor_in _ _ | exact pm_shl_in _ _ | exact pm_cmp_in _ _ | exact pm_b8_in _ | (unfold pm_inI; split <;> omega)) (by first | (unfold pm_inI; omega) | exact pm_and_in _ _ | exact pm_shr_in _ _ | exact pm_or_in _ _ | exact pm_xor_in _ _ | exact pm_shl_in _ _ | exact pm_cmp_in _ _ | exact pm_b8_in _ | (unfold pm_inI; split <;> omega)) (fun h3 => ?_) (fun h3 => ?_)
    · replace h3 : (K : Int) = 2 := h3
      omega
    · replace h3 : ¬ ((K : Int) = 2) := h3
      refine g_aload_n lk_191_24 rfl ?_
      refine g_iconst lk_191_25 ?_
      refine g_virtual (p := 116) (Qc := _) lk_191_26 rfl (Nat.le_of_ble_eq_true rfl) rfl rfl (lay.on (by decide) rfl) (Nat.le_of_ble_eq_true rfl) (Nat.le_of_ble_eq_true rfl) (Nat.zero_le _) (Nat.zero_le _) (fa2) ?_
      rintro _ K1 ⟨rfl, lay1, m1, ft1⟩
      show Wp _ 191 29 [(2, ((116 : Nat) : Int)), (0, (l : Int)), (0, y)] [] K1 _ _ _
      refine g_goto (t := 71) lk_191_29 rfl ?_
      exact bd _ K1 lay1 m1 ft1
theorem c_Mo_readOneB {d mc ms : Nat} {M : pm_M} (lay : Lay M) {n : Nat} {ch : Nat → Nat} (hC : TcM M n ch) {a : Nat} (f25 : pm_ct M 116 25 = (a : Int)) (a5 : a ≤ 500) {e : Nat × Nat} (h : BdM M e) {l : Nat} :
    pm_E (d + 2) 191 [(2, ((116 : Nat) : Int)), (0, (l : Int))] M mc ms (fun ρ M' => (∃ z : Int, ρ = some (0, z)) ∧ M' = M) := by
  obtain ⟨⟨g1, _⟩, g2, g3⟩ := h
  have ig := c_Mo_isGood (d := d + 1) (mc := 0) (ms := 0) lay g1 (by omega)
  rw [if_neg (by omega)] at ig
  have gb := goOn_bad (d := d) (mc := 0) (ms := 0) lay g1 (by omega) (by omega)
  have ba := c_Mo_byteAt (d := d + 1) (mc := 0) (ms := 0) lay hC (k := a) (by omega)
  obtain ⟨y, hy⟩ : ∃ y, y = chv ch n a := ⟨_, rfl⟩
  rw [← hy] at ba
  show Wp (d + 2) 191 0 [(2, ((116 : Nat) : Int)), (0, (l : Int)), (9, 0)] [] M mc ms _
  refine g_aload_n lk_191_0 rfl ?_
  refine g_aload_n lk_191_1 rfl ?_
  refine m_getfield (u := []) (M := M) lk_191_2 rfl (lay.on (by decide) rfl) (v := (a : Int)) f25 ?_
  refine g_virtual (p := 116) (Qc := _) lk_191_5 rfl (Nat.le_of_ble_eq_true rfl) rfl rfl (lay.on (by decide) rfl) (Nat.le_of_ble_eq_true rfl) (Nat.le_of_ble_eq_true rfl) (Nat.zero_le _) (Nat.zero_le _) (ba) ?_
  rintro _ N1 ⟨rfl, hN1⟩
  rw [hN1]
  show Wp _ 191 8 [(2, ((116 : Nat) : Int)), (0, (l : Int)), (9, 0)] [(0, y)] M _ _ _
  refine g_istore_n (ls' := [(2, ((116 : Nat) : Int)), (0, (l : Int)), (0, y)]) lk_191_8 rfl rfl ?_
  refine g_aload_n lk_191_9 rfl ?_
  refine g_virtual (p := 116) (Qc := _) lk_191_10 rfl (Nat.le_of_ble_eq_true rfl) rfl rfl (lay.on (by decide) rfl) (Nat.le_of_ble_eq_true rfl) (Nat.le_of_ble_eq_true rfl) (Nat.zero_le _) (Nat.zero_le _) (ig) ?_
  rintro _ N2 ⟨rfl, hN2⟩
  rw [hN2]
  show Wp _ 191 13 [(2, ((116 : Nat) : Int)), (0, (l : Int)), (0, y)] [(0, 0)] M _ _ _
  refine g_if (t := 32) lk_191_13 rfl (by first | (unfold pm_inI; omega) | exact pm_and_in _ _ | exact pm_shr_in _ _ | exact pm_or_in _ _ | exact pm_xor_in _ _ | exact pm_shl_in _ _ | exact pm_cmp_in _ _ | exact pm_b8_in _ | (unfold pm_inI; split <;> omega)) (fun _ => ?_) (fun h => absurd (show (0 : Int) = (0 : Int) by omega) h)
  refine g_aload_n lk_191_32 rfl ?_
  refine g_virtual (p := 116) (Qc := _) lk_191_33 rfl (Nat.le_of_ble_eq_true rfl) rfl rfl (lay.on (by decide) rfl) (Nat.le_of_ble_eq_true rfl) (Nat.le_of_ble_eq_true rfl) (Nat.zero_le _) (Nat.zero_le _) (ig) ?_
  rintro _ N3 ⟨rfl, hN3⟩
  rw [hN3]
  show Wp _ 191 36 [(2, ((116 : Nat) : Int)), (0, (l : Int)), (0, y)] [(0, 0)] M _ _ _
  refine g_if (t := 71) lk_191_36 rfl (by first | (unfold pm_inI; omega) | exact pm_and_in _ _ | exact pm_shr_in _ _ | exact pm_or_in _ _ | exact pm_xor_in _ _ | exact pm_shl_in _ _ | exact pm_cmp_in _ _ | exact pm_b8_in _ | (unfold pm_inI; split <;> omega)) (fun _ => ?_) (fun h => absurd (show (0 : Int) = (0 : Int) by omega) h)
  refine g_aload_n lk_191_71 rfl ?_
  refine g_virtual (p := 116) (Qc := _) lk_191_72 rfl (Nat.le_of_ble_eq_true rfl) rfl rfl (lay.on (by decide) rfl) (Nat.le_of_ble_eq_true rfl) (Nat.le_of_ble_eq_true rfl) (Nat.zero_le _) (Nat.zero_le _) (gb) ?_
  rintro _ K2 ⟨rfl, eK⟩
  rw [eK]
  show Wp _ 191 75 [(2, ((116 : Nat) : Int)), (0, (l : Int)), (0, y)] [] M _ _ _
  refine g_iload_n lk_191_75 rfl ?_
  refine g_bipush lk_191_76 ?_
  refine g_isub lk_191_78 ?_
  refine g_ireturn lk_191_79 (fun h => absurd h (by decide)) ?_
  exact ⟨⟨_, rfl⟩, rfl⟩
