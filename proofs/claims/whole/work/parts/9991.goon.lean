/-! ===== tokens: the model ===== -/
theorem TcM.mf {S K : List Nat} {M N : pm_M} {n : Nat} {ch : Nat → Nat} (h : TcM M n ch) (k : MF S K M N) (h1 : 24 ∉ K) (h2 : 132 ∉ S) : TcM N n ch := by
  unfold TcM at h ⊢
  rw [k.fd h1, k.ct h2 (by decide)]; exact h
def chv (ch : Nat → Nat) (n k : Nat) : Int := if k < n then (ch k : Int) else -1
theorem chv_r {M : pm_M} {ch : Nat → Nat} {n : Nat} (h : TcM M n ch) (k : Nat) : chv ch n k = (ch k : Int) ∧ k < n ∧ ch k < 256 ∨ chv ch n k = -1 ∧ n ≤ k := by
  unfold chv
  by_cases e : k < n
  · rw [if_pos e]; exact Or.inl ⟨rfl, e, (h.2.2 k e).1⟩
  · rw [if_neg e]; exact Or.inr ⟨rfl, by omega⟩
theorem c_Mo_byteAt {d mc ms : Nat} {M : pm_M} (lay : Lay M) {n : Nat} {ch : Nat → Nat} (hM : TcM M n ch) {k : Nat} (hk : k ≤ 600) :
    pm_E d 180 [(2, ((116 : Nat) : Int)), (0, (k : Int))] M mc ms (fun ρ M' => ρ = some (0, chv ch n k) ∧ M' = M) := by
  obtain ⟨n5, h24, ht⟩ := hM
  show Wp d 180 0 [(2, ((116 : Nat) : Int)), (0, (k : Int))] [] M mc ms _
  unfold chv
  by_cases e : k < n
  · have rd := (ht k e).2
    rw [if_pos e]
    refine g_iload_n lk_180_0 rfl ?_
    refine g_aload_n lk_180_1 rfl ?_
    refine m_getfield (u := []) (M := M) lk_180_2 rfl (lay.on (by decide) rfl) (v := (n : Int)) h24 ?_
    refine g_icmp (t := 17) lk_180_5 rfl (by first | (unfold pm_inI; omega) | exact pm_and_in _ _ | exact pm_shr_in _ _ | exact pm_or_in _ _ | exact pm_xor_in _ _ | exact pm_shl_in _ _ | exact pm_cmp_in _ _ | exact pm_b8_in _ | (unfold pm_inI; split <;> omega)) (by first | (unfold pm_inI; omega) | exact pm_and_in _ _ | exact pm_shr_in _ _ | exact pm_or_in _ _ | exact pm_xor_in _ _ | exact pm_shl_in _ _ | exact pm_cmp_in _ _ | exact pm_b8_in _ | (unfold pm_inI; split <;> omega)) (fun h1 => ?_) (fun h1 => ?_)
    · replace h1 : (n : Int) ≤ (k : Int) := h1
      omega
    · replace h1 : ¬ ((n : Int) ≤ (k : Int)) := h1
      refine g_aload_n lk_180_8 rfl ?_
      refine g_getfield lk_180_9 rfl (lay.on (by decide) rfl) (v := ((132 : Nat) : Int)) (lay.rf rfl) ?_
      refine g_iload_n lk_180_12 rfl ?_
      refine m_iaload (u := []) (M := M) lk_180_13 (lay.ay (by decide) rfl) (by omega) (j := k) (by omega) (v := (ch k : Int)) rd ?_
      refine g_goto (t := 18) lk_180_14 rfl ?_
      refine g_ireturn lk_180_18 (fun h => absurd h (by decide)) ?_
      exact ⟨rfl, rfl⟩
  · rw [if_neg e]
    refine g_iload_n lk_180_0 rfl ?_
    refine g_aload_n lk_180_1 rfl ?_
    refine m_getfield (u := []) (M := M) lk_180_2 rfl (lay.on (by decide) rfl) (v := (n : Int)) h24 ?_
    refine g_icmp (t := 17) lk_180_5 rfl (by first | (unfold pm_inI; omega) | exact pm_and_in _ _ | exact pm_shr_in _ _ | exact pm_or_in _ _ | exact pm_xor_in _ _ | exact pm_shl_in _ _ | exact pm_cmp_in _ _ | exact pm_b8_in _ | (unfold pm_inI; split <;> omega)) (by first | (unfold pm_inI; omega) | exact pm_and_in _ _ | exact pm_shr_in _ _ | exact pm_or_in _ _ | exact pm_xor_in _ _ | exact pm_shl_in _ _ | exact pm_cmp_in _ _ | exact pm_b8_in _ | (unfold pm_inI; split <;> omega)) (fun h1 => ?_) (fun h1 => ?_)
    · replace h1 : (n : Int) ≤ (k : Int) := h1
      refine g_iconst lk_180_17 ?_
      refine g_ireturn lk_180_18 (fun h => absurd h (by decide)) ?_
      exact ⟨rfl, rfl⟩
    · replace h1 : ¬ ((n : Int) ≤ (k : Int)) := h1
      omega
theorem c_Mo_isSmall {d mc ms : Nat} {M : pm_M} {z : Int} (hz : -1 ≤ z ∧ z ≤ 255) :
    pm_E d 181 [(0, z)] M mc ms (fun ρ M' => ρ = some (0, if 97 ≤ z ∧ z ≤ 122 then 1 else 0) ∧ M' = M) := by
  show Wp d 181 0 [(0, z)] [] M mc ms _
  refine g_iload_n lk_181_0 rfl ?_
  refine g_bipush lk_181_1 ?_
  refine g_icmp (t := 16) lk_181_3 rfl (by first | (unfold pm_inI; omega) | exact pm_and_in _ _ | exact pm_shr_in _ _ | exact pm_or_in _ _ | exact pm_xor_in _ _ | exact pm_shl_in _ _ | exact pm_cmp_in _ _ | exact pm_b8_in _ | (unfold pm_inI; split <;> omega)) (by first | (unfold pm_inI; omega) | exact pm_and_in _ _ | exact pm_shr_in _ _ | exact pm_or_in _ _ | exact pm_xor_in _ _ | exact pm_shl_in _ _ | exact pm_cmp_in _ _ | exact pm_b8_in _ | (unfold pm_inI; split <;> omega)) (fun h1 => ?_) (fun h1 => ?_)
  · replace h1 : z < 97 := h1
    refine g_iconst lk_181_16 ?_
    refine g_ireturn lk_181_17 (fun _ => by omega) ?_
    refine ⟨?_, rfl⟩
    first
      | rw [if_pos (by omega)]
      | rw [if_neg (by omega)]
  · replace h1 : ¬ (z < 97) := h1
    refine g_iload_n lk_181_6 rfl ?_
    refine g_bipush lk_181_7 ?_
    refine g_icmp (t := 16) lk_181_9 rfl (by first | (unfold pm_inI; omega) | exact pm_and_in _ _ | exact pm_shr_in _ _ | exact pm_or_in _ _ | exact pm_xor_in _ _ | exact pm_shl_in _ _ | exact pm_cmp_in _ _ | exact pm_b8_in _ | (unfold pm_inI; split <;> omega)) (by first | (unfold pm_inI; omega) | exact pm_and_in _ _ | exact pm_shr_in _ _ | exact pm_or_in _ _ | exact pm_xor_in _ _ | exact pm_shl_in _ _ | exact pm_cmp_in _ _ | exact pm_b8_in _ | (unfold pm_inI; split <;> omega)) (fun h2 => ?_) (fun h2 => ?_)
    · replace h2 : 122 < z := h2
      refine g_iconst lk_181_16 ?_
      refine g_ireturn lk_181_17 (fun _ => by omega) ?_
      refine ⟨?_, rfl⟩
      first
        | rw [if_pos (by omega)]
        | rw [if_neg (by omega)]
    · replace h2 : ¬ (122 < z) := h2
      refine g_iconst lk_181_12 ?_
      refine g_goto (t := 17) lk_181_13 rfl ?_
      refine g_ireturn lk_181_17 (fun _ => by omega) ?_
      refine ⟨?_, rfl⟩
      first
        | rw [if_pos (by omega)]
        | rw [if_neg (by omega)]
theorem c_Mo_isOfRun {d mc ms : Nat} {M : pm_M} {z : Int} (hz : -1 ≤ z ∧ z ≤ 255) :
    pm_E d 182 [(0, z)] M mc ms (fun ρ M' => ρ = some (0, if (48 ≤ z ∧ z ≤ 57) ∨ z = 46 then 1 else 0) ∧ M' = M) := by
  show Wp d 182 0 [(0, z)] [] M mc ms _
  refine g_iload_n lk_182_0 rfl ?_
  refine g_bipush lk_182_1 ?_
  refine g_icmp (t := 12) lk_182_3 rfl (by first | (unfold pm_inI; omega) | exact pm_and_in _ _ | exact pm_shr_in _ _ | exact pm_or_in _ _ | exact pm_xor_in _ _ | exact pm_shl_in _ _ | exact pm_cmp_in _ _ | exact pm_b8_in _ | (unfold pm_inI; split <;> omega)) (by first | (unfold pm_inI; omega) | exact pm_and_in _ _ | exact pm_shr_in _ _ | exact pm_or_in _ _ | exact pm_xor_in _ _ | exact pm_shl_in _ _ | exact pm_cmp_in _ _ | exact pm_b8_in _ | (unfold pm_inI; split <;> omega)) (fun h1 => ?_) (fun h1 => ?_)
  · replace h1 : z < 48 := h1
    refine g_iload_n lk_182_12 rfl ?_
    refine g_bipush lk_182_13 ?_
    refine g_icmp (t := 22) lk_182_15 rfl (by first | (unfold pm_inI; omega) | exact pm_and_in _ _ | exact pm_shr_in _ _ | exact pm_or_in _ _ | exact pm_xor_in _ _ | exact pm_shl_in _ _ | exact pm_cmp_in _ _ | exact pm_b8_in _ | (unfold pm_inI; split <;> omega)) (by first | (unfold pm_inI; omega) | exact pm_and_in _ _ | exact pm_shr_in _ _ | exact pm_or_in _ _ | exact pm_xor_in _ _ | exact pm_shl_in _ _ | exact pm_cmp_in _ _ | exact pm_b8_in _ | (unfold pm_inI; split <;> omega)) (fun h2 => ?_) (fun h2 => ?_)
    · replace h2 : ¬ z = 46 := h2
      refine g_iconst lk_182_22 ?_
      refine g_ireturn lk_182_23 (fun _ => by omega) ?_
      refine ⟨?_, rfl⟩
      first
        | rw [if_pos (by omega)]
        | rw [if_neg (by omega)]
    · replace h2 : ¬ (¬ z = 46) := h2
      refine g_iconst lk_182_18 ?_
      refine g_goto (t := 23) lk_182_19 rfl ?_
      refine g_ireturn lk_182_23 (fun _ => by omega) ?_
      refine ⟨?_, rfl⟩
      first
        | rw [if_pos (by omega)]
        | rw [if_neg (by omega)]
  · replace h1 : ¬ (z < 48) := h1
    refine g_iload_n lk_182_6 rfl ?_
    refine g_bipush lk_182_7 ?_
    refine g_icmp (t := 18) lk_182_9 rfl (by first | (unfold pm_inI; omega) | exact pm_and_in _ _ | exact pm_shr_in _ _ | exact pm_or_in _ _ | exact pm_xor_in _ _ | exact pm_shl_in _ _ | exact pm_cmp_in _ _ | exact pm_b8_in _ | (unfold pm_inI; split <;> omega)) (by first | (unfold pm_inI; omega) | exact pm_and_in _ _ | exact pm_shr_in _ _ | exact pm_or_in _ _ | exact pm_xor_in _ _ | exact pm_shl_in _ _ | exact pm_cmp_in _ _ | exact pm_b8_in _ | (unfold pm_inI; split <;> omega)) (fun h3 => ?_) (fun h3 => ?_)
    · replace h3 : z ≤ 57 := h3
      refine g_iconst lk_182_18 ?_
      refine g_goto (t := 23) lk_182_19 rfl ?_
      refine g_ireturn lk_182_23 (fun _ => by omega) ?_
      refine ⟨?_, rfl⟩
      first
        | rw [if_pos (by omega)]
        | rw [if_neg (by omega)]
    · replace h3 : ¬ (z ≤ 57) := h3
      refine g_iload_n lk_182_12 rfl ?_
      refine g_bipush lk_182_13 ?_
      refine g_icmp (t := 22) lk_182_15 rfl (by first | (unfold pm_inI; omega) | exact pm_and_in _ _ | exact pm_shr_in _ _ | exact pm_or_in _ _ | exact pm_xor_in _ _ | exact pm_shl_in _ _ | exact pm_cmp_in _ _ | exact pm_b8_in _ | (unfold pm_inI; split <;> omega)) (by first | (unfold pm_inI; omega) | exact pm_and_in _ _ | exact pm_shr_in _ _ | exact pm_or_in _ _ | exact pm_xor_in _ _ | exact pm_shl_in _ _ | exact pm_cmp_in _ _ | exact pm_b8_in _ | (unfold pm_inI; split <;> omega)) (fun h4 => ?_) (fun h4 => ?_)
      · replace h4 : ¬ z = 46 := h4
        refine g_iconst lk_182_22 ?_
        refine g_ireturn lk_182_23 (fun _ => by omega) ?_
        refine ⟨?_, rfl⟩
        first
          | rw [if_pos (by omega)]
          | rw [if_neg (by omega)]
      · replace h4 : ¬ (¬ z = 46) := h4
        refine g_iconst lk_182_18 ?_
        refine g_goto (t := 23) lk_182_19 rfl ?_
        refine g_ireturn lk_182_23 (fun _ => by omega) ?_
        refine ⟨?_, rfl⟩
        first
          | rw [if_pos (by omega)]
          | rw [if_neg (by omega)]
theorem c_Mo_isGood {d mc ms : Nat} {M : pm_M} (lay : Lay M) {w : Nat} (hw : pm_ct M 116 31 = (w : Int)) (w9 : w ≤ 9) :
    pm_E d 183 [(2, ((116 : Nat) : Int))] M mc ms (fun ρ M' => ρ = some (0, if w = 0 then 1 else 0) ∧ M' = M) := by
  show Wp d 183 0 [(2, ((116 : Nat) : Int))] [] M mc ms _
  refine g_aload_n lk_183_0 rfl ?_
  refine m_getfield (u := []) (M := M) lk_183_1 rfl (lay.on (by decide) rfl) (v := (w : Int)) hw ?_
  refine g_if (t := 11) lk_183_4 rfl (by first | (unfold pm_inI; omega) | exact pm_and_in _ _ | exact pm_shr_in _ _ | exact pm_or_in _ _ | exact pm_xor_in _ _ | exact pm_shl_in _ _ | exact pm_cmp_in _ _ | exact pm_b8_in _ | (unfold pm_inI; split <;> omega)) (fun h1 => ?_) (fun h1 => ?_)
  · replace h1 : ¬ (w : Int) = 0 := h1
    refine g_iconst lk_183_11 ?_
    refine g_ireturn lk_183_12 (fun _ => by omega) ?_
    refine ⟨?_, rfl⟩
    first
      | rw [if_pos (by omega)]
      | rw [if_neg (by omega)]
  · replace h1 : ¬ (¬ (w : Int) = 0) := h1
    refine g_iconst lk_183_7 ?_
    refine g_goto (t := 12) lk_183_8 rfl ?_
    refine g_ireturn lk_183_12 (fun _ => by omega) ?_
    refine ⟨?_, rfl⟩
    first
      | rw [if_pos (by omega)]
      | rw [if_neg (by omega)]
theorem kdc_2 {c : Nat} : kdc c = 2 ↔ ((48 ≤ c ∧ c ≤ 57) ∨ c = 46) := by
  unfold kdc
  by_cases e : 97 ≤ c ∧ c ≤ 122
  · rw [if_pos e]; omega
  · rw [if_neg e]
    by_cases e2 : (48 ≤ c ∧ c ≤ 57) ∨ c = 46
    · rw [if_pos e2]; exact ⟨fun _ => e2, fun _ => rfl⟩
    · rw [if_neg e2]
      refine ⟨fun h => ?_, fun h => absurd h e2⟩
      split at h <;> omega
theorem kdc_11 {c : Nat} : kdc c = 1 ↔ (97 ≤ c ∧ c ≤ 122) := ⟨kdc_1, fun h => by unfold kdc; rw [if_pos h]⟩
theorem kdc_3 {c : Nat} : kdc c = 3 ↔ c = 59 := by
  unfold kdc
  by_cases e : 97 ≤ c ∧ c ≤ 122
  · rw [if_pos e]; omega
  · rw [if_neg e]
    by_cases e2 : (48 ≤ c ∧ c ≤ 57) ∨ c = 46
    · rw [if_pos e2]; omega
    · rw [if_neg e2]
      by_cases e3 : c = 59
      · rw [if_pos e3]; exact ⟨fun _ => e3, fun _ => rfl⟩
      · rw [if_neg e3]; omega
theorem up_out {f : Nat → Int} {a k : Nat} {z : Int} (ha : a ∈ [25, 26, 27, 28]) (hk : k ∉ [25, 26, 27, 28]) : pm_upd f a z k = f k := pm_upd_ne (fun e => hk (by rw [e]; exact ha))
theorem goOn_bad {d mc ms : Nat} {M : pm_M} (lay : Lay M) {w : Nat} (hw : pm_ct M 116 31 = (w : Int)) (w9 : w ≤ 9) (w0 : w ≠ 0) :
    pm_E (d + 1) 185 [(2, ((116 : Nat) : Int))] M mc ms (fun ρ M' => ρ = none ∧ M' = M) := by
  have ig := c_Mo_isGood (d := d) (mc := 0) (ms := 0) lay hw w9
  rw [if_neg w0] at ig
  show Wp (d + 1) 185 0 [(2, ((116 : Nat) : Int)), (9, 0)] [] M mc ms _
  refine g_aload_n lk_185_0 rfl ?_
  refine g_virtual (p := 116) (Qc := _) lk_185_1 rfl (Nat.le_of_ble_eq_true rfl) rfl rfl (lay.on (by decide) rfl) (Nat.le_of_ble_eq_true rfl) (Nat.le_of_ble_eq_true rfl) (Nat.zero_le _) (Nat.zero_le _) (ig) ?_
  rintro _ N1 ⟨rfl, hN1⟩
  rw [hN1]
  show Wp _ 185 4 [(2, ((116 : Nat) : Int)), (9, 0)] [(0, 0)] M _ _ _
  refine g_if (t := 8) lk_185_4 rfl (by first | (unfold pm_inI; omega) | exact pm_and_in _ _ | exact pm_shr_in _ _ | exact pm_or_in _ _ | exact pm_xor_in _ _ | exact pm_shl_in _ _ | exact pm_cmp_in _ _ | exact pm_b8_in _ | (unfold pm_inI; split <;> omega)) (fun h => absurd h (show ¬ (¬ (0 : Int) = (0 : Int)) by omega)) (fun _ => ?_)
  refine g_return lk_185_7 ?_
  exact ⟨rfl, rfl⟩
set_option maxHeartbeats 8000000 in
theorem c_Mo_goOn {d mc ms : Nat} {M : pm_M} (lay0 : Lay M) {n : Nat} {ch : Nat → Nat} (hM0 : TcM M n ch) (hw : pm_ct M 116 31 = 0) {p : Nat} (hp : pm_ct M 116 26 = (p : Int)) (pn : p ≤ n) :
    pm_E (d + 1) 185 [(2, ((116 : Nat) : Int))] M mc ms (fun ρ M' => ρ = none ∧ Lay M' ∧ MF [] [25, 26, 27, 28] M M' ∧ TkM M' ch (lxt ch n p)) := by
  obtain ⟨Q, hQ⟩ : ∃ Q : pm_Q, Q = (fun ρ M' => ρ = none ∧ Lay M' ∧ MF [] [25, 26, 27, 28] M M' ∧ TkM M' ch (lxt ch n p)) := ⟨_, rfl⟩
  rw [← hQ]
  have n5 := hM0.1
  obtain ⟨a, ha⟩ : ∃ a, a = skp ch n 500 p := ⟨_, rfl⟩
  have sl := skp_le ch n 500 p
  rw [← ha] at sl
  have an := sl.2 pn
  have et : lxt ch n p = lxA ch n a := by unfold lxt; rw [ha]
  rw [et] at hQ
  have tcm : ∀ {N : pm_M}, MF [] [25, 26, 27, 28] M N → TcM N n ch := fun k => hM0.mf k (by decide) (by decide)
  have ba : ∀ {N : pm_M} (k : Nat), Lay N → MF [] [25, 26, 27, 28] M N → k ≤ 600 → pm_E d 180 [(2, ((116 : Nat) : Int)), (0, (k : Int))] N 0 0 (fun ρ M' => ρ = some (0, chv ch n k) ∧ M' = N) := fun k l m h => c_Mo_byteAt l (tcm m) h
  have cr := fun k => chv_r hM0 k
  have done : ∀ (K s : Nat), a < n → kdc (ch a) = K → (K = 1 ∨ K = 2) → spn ch n K 500 a = a + s → lxA ch n a = (if 6 < s then 4 else K, a, a + s) := fun K s q1 q2 q3 q4 => by
    unfold lxA
    rw [if_neg (by omega), q2, if_neg (by omega), q4, show a + s - a = s by omega]
    split <;> rfl
  have fin : ∀ (N' N : pm_M) (f : Nat → Int) (K s : Nat) (z : Int), N' = Mu [(116, f)] N → Lay N' → MF [] [25, 26, 27, 28] M N → (∀ k, k ∉ [25, 26, 27, 28] → f k = pm_ct N 116 k) → f 25 = (a : Int) → f 26 = ((a + s : Nat) : Int) → f 27 = (K : Int) → f 28 = z → lxA ch n a = (K, a, a + s) → (K = 1 → z = ((nr 32 (lw' ch a s) : Nat) : Int)) → Q none N' := by
    intro N' N f K s z hN' l1 mf hf f25 f26 f27 f28 hl hz
    rw [hQ]
    refine ⟨rfl, l1, by rw [hN']; exact mf.trans (MF.mu _ _ rfl hf), ?_⟩
    rw [hl, hN']
    unfold TkM
    rw [Mu_ct]
    refine ⟨f27, f25, f26, fun q => ?_⟩
    show f 28 = ((nr 32 (lw' ch a (a + s - a)) : Nat) : Int)
    rw [show a + s - a = s by omega, f28]
    exact hz q
  -- words
  have words : a < n → kdc (ch a) = 1 → ∀ (k s : Nat) (N : pm_M) (z : Int) (v1 : pm_V), a + s ≤ n → n ≤ a + s + k → spn ch n 1 500 a = spn ch n 1 k (a + s) → Lay N → MF [] [25, 26, 27, 28] M N → pm_ct N 116 25 = (a : Int) → pm_ct N 116 26 = ((a + s : Nat) : Int) → pm_ct N 116 28 = z → (s ≤ 6 → z = ((nr 32 (lw' ch a s) : Nat) : Int)) → Wp (d + 1) 185 89 [(2, ((116 : Nat) : Int)), v1] [] N mc ms Q := by
    intro an' hka k
    have stop : ∀ (s : Nat) (N : pm_M) (z : Int) (v1 : pm_V), a + s ≤ n → spn ch n 1 500 a = a + s → Lay N → MF [] [25, 26, 27, 28] M N → pm_ct N 116 25 = (a : Int) → pm_ct N 116 26 = ((a + s : Nat) : Int) → pm_ct N 116 28 = z → (s ≤ 6 → z = ((nr 32 (lw' ch a s) : Nat) : Int)) → Wp (d + 1) 185 160 [(2, ((116 : Nat) : Int)), v1] [] N mc ms Q := by
      intro s N z v1 g1 g3 lay mf f25 f26 f28 hz
      have dn := done 1 s an' hka (Or.inl rfl) g3
      have ed : ((a + s : Nat) : Int) - (a : Int) = (s : Int) := by omega
      refine g_aload_n lk_185_160 rfl ?_
      refine g_aload_n lk_185_161 rfl ?_
      refine m_getfield (u := []) (M := N) lk_185_162 rfl (lay.on (by decide) rfl) (v := ((a + s : Nat) : Int)) f26 ?_
      refine g_aload_n lk_185_165 rfl ?_
      refine m_getfield (u := []) (M := N) lk_185_166 rfl (lay.on (by decide) rfl) (v := (a : Int)) f25 ?_
      refine g_isub lk_185_169 ?_
      refine g_top (z := (((a + s : Nat) : Int) - (a : Int))) (z' := (s : Int)) (ed) ?_
      refine g_bipush lk_185_170 ?_
      refine g_icmp (t := 179) lk_185_172 rfl (by first | (unfold pm_inI; omega) | exact pm_and_in _ _ | exact pm_shr_in _ _ | exact pm_or_in _ _ | exact pm_xor_in _ _ | exact pm_shl_in _ _ | exact pm_cmp_in _ _ | exact pm_b8_in _ | (unfold pm_inI; split <;> omega)) (by first | (unfold pm_inI; omega) | exact pm_and_in _ _ | exact pm_shr_in _ _ | exact pm_or_in _ _ | exact pm_xor_in _ _ | exact pm_shl_in _ _ | exact pm_cmp_in _ _ | exact pm_b8_in _ | (unfold pm_inI; split <;> omega)) (fun h1 => ?_) (fun h1 => ?_)
      · replace h1 : (s : Int) ≤ 6 := h1
        refine g_iconst lk_185_179 ?_
        have lay2 : Lay (Mu [(116, pm_upd (pm_ct N 116) 27 1)] N) := lay.muF (l := []) (a := 116) (k := 27) (z := 1) rfl rfl
        refine m_putfield (u := []) (u' := [(116, pm_upd (pm_ct N 116) 27 1)]) (M := N) lk_185_180 rfl (lay.on (by decide) rfl) (fun h => absurd h (by decide)) rfl ?_
        refine g_goto (t := 271) lk_185_183 rfl ?_
        refine g_return lk_185_271 ?_
        refine fin _ N _ 1 s z rfl lay2 mf (fun k hk => pm_upd_ne (by simp at hk; omega)) f25 f26 rfl f28 (by rw [dn, if_neg (by omega)]) (fun _ => hz (by omega))
      · replace h1 : ¬ ((s : Int) ≤ 6) := h1
        refine g_iconst lk_185_175 ?_
        refine g_goto (t := 180) lk_185_176 rfl ?_
        have lay3 : Lay (Mu [(116, pm_upd (pm_ct N 116) 27 4)] N) := lay.muF (l := []) (a := 116) (k := 27) (z := 4) rfl rfl
        refine m_putfield (u := []) (u' := [(116, pm_upd (pm_ct N 116) 27 4)]) (M := N) lk_185_180 rfl (lay.on (by decide) rfl) (fun h => absurd h (by decide)) rfl ?_
        refine g_goto (t := 271) lk_185_183 rfl ?_
        refine g_return lk_185_271 ?_
        refine fin _ N _ 4 s z rfl lay3 mf (fun k hk => pm_upd_ne (by simp at hk; omega)) f25 f26 rfl f28 (by rw [dn, if_pos (by omega)]) (fun q => by cases q)
    induction k with
    | zero =>
      intro s N z v1 g1 g2 g3 lay mf f25 f26 f28 hz
      have b1 := ba (a + s) lay mf (by omega)
      have c1 := cr (a + s)
      have is := fun (M : pm_M) => c_Mo_isSmall (d := d) (mc := 0) (ms := 0) (M := M) (z := chv ch n (a + s)) (by omega)
      rw [if_neg (by omega)] at is
      obtain ⟨y, hy⟩ : ∃ y, y = chv ch n (a + s) := ⟨_, rfl⟩
      rw [← hy] at b1 is
      have st := stop s N z v1 g1 g3 lay mf f25 f26 f28 hz
      refine g_aload_n lk_185_89 rfl ?_
      refine g_aload_n lk_185_90 rfl ?_
      refine m_getfield (u := []) (M := N) lk_185_91 rfl (lay.on (by decide) rfl) (v := ((a + s : Nat) : Int)) f26 ?_
      refine g_virtual (p := 116) (Qc := _) lk_185_94 rfl (Nat.le_of_ble_eq_true rfl) rfl rfl (lay.on (by decide) rfl) (Nat.le_of_ble_eq_true rfl) (Nat.le_of_ble_eq_true rfl) (Nat.zero_le _) (Nat.zero_le _) (b1) ?_
      rintro _ N1 ⟨rfl, hN1⟩
      rw [hN1]
      show Wp _ 185 97 [(2, ((116 : Nat) : Int)), v1] [(0, y)] N _ _ _
      refine g_static (Qc := _) lk_185_97 (by decide) rfl (Nat.le_of_ble_eq_true rfl) rfl rfl (Nat.le_of_ble_eq_true rfl) (Nat.le_of_ble_eq_true rfl) (Nat.zero_le _) (Nat.zero_le _) (is _) ?_
      rintro _ N2 ⟨rfl, hN2⟩
      rw [hN2]
      show Wp _ 185 100 [(2, ((116 : Nat) : Int)), v1] [(0, 0)] N _ _ _
      refine g_if (t := 160) lk_185_100 rfl (by first | (unfold pm_inI; omega) | exact pm_and_in _ _ | exact pm_shr_in _ _ | exact pm_or_in _ _ | exact pm_xor_in _ _ | exact pm_shl_in _ _ | exact pm_cmp_in _ _ | exact pm_b8_in _ | (unfold pm_inI; split <;> omega)) (fun _ => ?_) (fun h => absurd (show (0 : Int) = (0 : Int) by omega) h)
      exact st
    | succ k ih =>
      intro s N z v1 g1 g2 g3 lay mf f25 f26 f28 hz
      replace g3 : spn ch n 1 500 a = if a + s < n ∧ kdc (ch (a + s)) = 1 then spn ch n 1 k (a + s + 1) else a + s := g3
      have b1 := ba (a + s) lay mf (by omega)
      have c1 := cr (a + s)
      have is := fun (M : pm_M) => c_Mo_isSmall (d := d) (mc := 0) (ms := 0) (M := M) (z := chv ch n (a + s)) (by omega)
      by_cases e2 : a + s < n ∧ kdc (ch (a + s)) = 1
      · rw [if_pos e2] at g3
        have k1 := kdc_1 e2.2
        have nx := fun N' z' => ih (s + 1) N' z' v1 (by omega) (by omega) (by rw [g3]; rfl)
        rw [if_pos (by omega)] at is
        have ed : ((a + s : Nat) : Int) - (a : Int) = (s : Int) := by omega
        have zw : s < 6 → z * 32 + chv ch n (a + s) - 96 = ((nr 32 (lw' ch a (s + 1)) : Nat) : Int) := fun q => by
          show _ = (((ch (a + s) - 96) + 32 * nr 32 (lw' ch a s) : Nat) : Int)
          have := hz (by omega)
          omega
        obtain ⟨y, hy⟩ : ∃ y, y = chv ch n (a + s) := ⟨_, rfl⟩
        rw [← hy] at b1 is zw
        have e26 : ((a + s : Nat) : Int) + 1 = ((a + (s + 1) : Nat) : Int) := by omega
        clear ih
        refine g_aload_n lk_185_89 rfl ?_
        refine g_aload_n lk_185_90 rfl ?_
        refine m_getfield (u := []) (M := N) lk_185_91 rfl (lay.on (by decide) rfl) (v := ((a + s : Nat) : Int)) f26 ?_
        refine g_virtual (p := 116) (Qc := _) lk_185_94 rfl (Nat.le_of_ble_eq_true rfl) rfl rfl (lay.on (by decide) rfl) (Nat.le_of_ble_eq_true rfl) (Nat.le_of_ble_eq_true rfl) (Nat.zero_le _) (Nat.zero_le _) (b1) ?_
        rintro _ N1 ⟨rfl, hN1⟩
        rw [hN1]
        show Wp _ 185 97 [(2, ((116 : Nat) : Int)), v1] [(0, y)] N _ _ _
        refine g_static (Qc := _) lk_185_97 (by decide) rfl (Nat.le_of_ble_eq_true rfl) rfl rfl (Nat.le_of_ble_eq_true rfl) (Nat.le_of_ble_eq_true rfl) (Nat.zero_le _) (Nat.zero_le _) (is _) ?_
        rintro _ N2 ⟨rfl, hN2⟩
        rw [hN2]
        show Wp _ 185 100 [(2, ((116 : Nat) : Int)), v1] [(0, 1)] N _ _ _
        refine g_if (t := 160) lk_185_100 rfl (by first | (unfold pm_inI; omega) | exact pm_and_in _ _ | exact pm_shr_in _ _ | exact pm_or_in _ _ | exact pm_xor_in _ _ | exact pm_shl_in _ _ | exact pm_cmp_in _ _ | exact pm_b8_in _ | (unfold pm_inI; split <;> omega)) (fun h => absurd h (show ¬ ((1 : Int) = (0 : Int)) by omega)) (fun _ => ?_)
        refine g_aload_n lk_185_103 rfl ?_
        refine g_aload_n lk_185_104 rfl ?_
        refine m_getfield (u := []) (M := N) lk_185_105 rfl (lay.on (by decide) rfl) (v := ((a + s : Nat) : Int)) f26 ?_
        refine g_aload_n lk_185_108 rfl ?_
        refine m_getfield (u := []) (M := N) lk_185_109 rfl (lay.on (by decide) rfl) (v := (a : Int)) f25 ?_
        refine g_isub lk_185_112 ?_
        refine g_top (z := (((a + s : Nat) : Int) - (a : Int))) (z' := (s : Int)) (ed) ?_
        refine g_bipush lk_185_113 ?_
        refine g_icmp (t := 140) lk_185_115 rfl (by first | (unfold pm_inI; omega) | exact pm_and_in _ _ | exact pm_shr_in _ _ | exact pm_or_in _ _ | exact pm_xor_in _ _ | exact pm_shl_in _ _ | exact pm_cmp_in _ _ | exact pm_b8_in _ | (unfold pm_inI; split <;> omega)) (by first | (unfold pm_inI; omega) | exact pm_and_in _ _ | exact pm_shr_in _ _ | exact pm_or_in _ _ | exact pm_xor_in _ _ | exact pm_shl_in _ _ | exact pm_cmp_in _ _ | exact pm_b8_in _ | (unfold pm_inI; split <;> omega)) (fun h3 => ?_) (fun h3 => ?_)
        · replace h3 : 6 ≤ (s : Int) := h3
          refine g_aload_n lk_185_140 rfl ?_
          refine m_getfield (u := []) (M := N) lk_185_141 rfl (lay.on (by decide) rfl) (v := z) f28 ?_
          have lay4 : Lay (Mu [(116, pm_upd (pm_ct N 116) 28 z)] N) := lay.muF (l := []) (a := 116) (k := 28) (z := z) rfl rfl
          refine m_putfield (u := []) (u' := [(116, pm_upd (pm_ct N 116) 28 z)]) (M := N) lk_185_144 rfl (lay.on (by decide) rfl) (fun h => absurd h (by decide)) rfl ?_
          refine g_aload_n lk_185_147 rfl ?_
          refine g_dup lk_185_148 rfl ?_
          refine m_getfield (u := [(116, pm_upd (pm_ct N 116) 28 z)]) (M := N) lk_185_149 rfl (lay4.on (by decide) rfl) (v := ((a + s : Nat) : Int)) f26 ?_
          refine g_iconst lk_185_152 ?_
          refine g_iadd lk_185_153 ?_
          have lay5 : Lay (Mu [(116, pm_upd (pm_upd (pm_ct N 116) 28 z) 26 (((a + s : Nat) : Int) + 1))] N) := lay4.muF (l := [(116, pm_upd (pm_ct N 116) 28 z)]) (a := 116) (k := 26) (z := (((a + s : Nat) : Int) + 1)) rfl rfl
          refine m_putfield (u := [(116, pm_upd (pm_ct N 116) 28 z)]) (u' := [(116, pm_upd (pm_upd (pm_ct N 116) 28 z) 26 (((a + s : Nat) : Int) + 1))]) (M := N) lk_185_154 rfl (lay4.on (by decide) rfl) (fun h => absurd h (by decide)) rfl ?_
          refine g_goto (t := 89) lk_185_157 rfl ?_
          exact nx _ z lay5 (mf.trans (MF.mu _ _ rfl (fun k hk => (up_out (by decide) hk).trans (up_out (by decide) hk)))) (by rw [Mu_ct]; exact f25) (by rw [Mu_ct]; exact e26) (by rw [Mu_ct]; rfl) (fun q => by omega)
        · replace h3 : ¬ (6 ≤ (s : Int)) := h3
          refine g_aload_n lk_185_118 rfl ?_
          refine m_getfield (u := []) (M := N) lk_185_119 rfl (lay.on (by decide) rfl) (v := z) f28 ?_
          refine g_bipush lk_185_122 ?_
          refine g_imul lk_185_124 ?_
          refine g_aload_n lk_185_125 rfl ?_
          refine g_aload_n lk_185_126 rfl ?_
          refine m_getfield (u := []) (M := N) lk_185_127 rfl (lay.on (by decide) rfl) (v := ((a + s : Nat) : Int)) f26 ?_
          refine g_virtual (p := 116) (Qc := _) lk_185_130 rfl (Nat.le_of_ble_eq_true rfl) rfl rfl (lay.on (by decide) rfl) (Nat.le_of_ble_eq_true rfl) (Nat.le_of_ble_eq_true rfl) (Nat.zero_le _) (Nat.zero_le _) (b1) ?_
          rintro _ N6 ⟨rfl, hN6⟩
          rw [hN6]
          show Wp _ 185 133 [(2, ((116 : Nat) : Int)), v1] [(0, y), (0, (z * 32)), (2, ((116 : Nat) : Int))] N _ _ _
          refine g_iadd lk_185_133 ?_
          refine g_bipush lk_185_134 ?_
          refine g_isub lk_185_136 ?_
          refine g_goto (t := 144) lk_185_137 rfl ?_
          have lay7 : Lay (Mu [(116, pm_upd (pm_ct N 116) 28 (((z * 32) + y) - 96))] N) := lay.muF (l := []) (a := 116) (k := 28) (z := (((z * 32) + y) - 96)) rfl rfl
          refine m_putfield (u := []) (u' := [(116, pm_upd (pm_ct N 116) 28 (((z * 32) + y) - 96))]) (M := N) lk_185_144 rfl (lay.on (by decide) rfl) (fun h => absurd h (by decide)) rfl ?_
          refine g_aload_n lk_185_147 rfl ?_
          refine g_dup lk_185_148 rfl ?_
          refine m_getfield (u := [(116, pm_upd (pm_ct N 116) 28 (((z * 32) + y) - 96))]) (M := N) lk_185_149 rfl (lay7.on (by decide) rfl) (v := ((a + s : Nat) : Int)) f26 ?_
          refine g_iconst lk_185_152 ?_
          refine g_iadd lk_185_153 ?_
          have lay8 : Lay (Mu [(116, pm_upd (pm_upd (pm_ct N 116) 28 (((z * 32) + y) - 96)) 26 (((a + s : Nat) : Int) + 1))] N) := lay7.muF (l := [(116, pm_upd (pm_ct N 116) 28 (((z * 32) + y) - 96))]) (a := 116) (k := 26) (z := (((a + s : Nat) : Int) + 1)) rfl rfl
          refine m_putfield (u := [(116, pm_upd (pm_ct N 116) 28 (((z * 32) + y) - 96))]) (u' := [(116, pm_upd (pm_upd (pm_ct N 116) 28 (((z * 32) + y) - 96)) 26 (((a + s : Nat) : Int) + 1))]) (M := N) lk_185_154 rfl (lay7.on (by decide) rfl) (fun h => absurd h (by decide)) rfl ?_
          refine g_goto (t := 89) lk_185_157 rfl ?_
          exact nx _ (z * 32 + y - 96) lay8 (mf.trans (MF.mu _ _ rfl (fun k hk => (up_out (by decide) hk).trans (up_out (by decide) hk)))) (by rw [Mu_ct]; exact f25) (by rw [Mu_ct]; exact e26) (by rw [Mu_ct]; rfl) (fun q => zw (by omega))
      · rw [if_neg e2] at g3
        have nk : ¬ (97 ≤ chv ch n (a + s) ∧ chv ch n (a + s) ≤ 122) := fun q => e2 ⟨by omega, kdc_11.mpr (by omega)⟩
        rw [if_neg nk] at is
        obtain ⟨y, hy⟩ : ∃ y, y = chv ch n (a + s) := ⟨_, rfl⟩
        rw [← hy] at b1 is
        have st := stop s N z v1 g1 g3 lay mf f25 f26 f28 hz
        clear ih
        refine g_aload_n lk_185_89 rfl ?_
        refine g_aload_n lk_185_90 rfl ?_
        refine m_getfield (u := []) (M := N) lk_185_91 rfl (lay.on (by decide) rfl) (v := ((a + s : Nat) : Int)) f26 ?_
        refine g_virtual (p := 116) (Qc := _) lk_185_94 rfl (Nat.le_of_ble_eq_true rfl) rfl rfl (lay.on (by decide) rfl) (Nat.le_of_ble_eq_true rfl) (Nat.le_of_ble_eq_true rfl) (Nat.zero_le _) (Nat.zero_le _) (b1) ?_
        rintro _ N1 ⟨rfl, hN1⟩
        rw [hN1]
        show Wp _ 185 97 [(2, ((116 : Nat) : Int)), v1] [(0, y)] N _ _ _
        refine g_static (Qc := _) lk_185_97 (by decide) rfl (Nat.le_of_ble_eq_true rfl) rfl rfl (Nat.le_of_ble_eq_true rfl) (Nat.le_of_ble_eq_true rfl) (Nat.zero_le _) (Nat.zero_le _) (is _) ?_
        rintro _ N2 ⟨rfl, hN2⟩
        rw [hN2]
        show Wp _ 185 100 [(2, ((116 : Nat) : Int)), v1] [(0, 0)] N _ _ _
        refine g_if (t := 160) lk_185_100 rfl (by first | (unfold pm_inI; omega) | exact pm_and_in _ _ | exact pm_shr_in _ _ | exact pm_or_in _ _ | exact pm_xor_in _ _ | exact pm_shl_in _ _ | exact pm_cmp_in _ _ | exact pm_b8_in _ | (unfold pm_inI; split <;> omega)) (fun _ => ?_) (fun h => absurd (show (0 : Int) = (0 : Int) by omega) h)
        exact st
  have runs : a < n → kdc (ch a) = 2 → ∀ (k s : Nat) (N : pm_M) (v1 : pm_V), a + s ≤ n → n ≤ a + s + k → spn ch n 2 500 a = spn ch n 2 k (a + s) → Lay N → MF [] [25, 26, 27, 28] M N → pm_ct N 116 25 = (a : Int) → pm_ct N 116 26 = ((a + s : Nat) : Int) → Wp (d + 1) 185 193 [(2, ((116 : Nat) : Int)), v1] [] N mc ms Q := by
    intro an' hka k
    have stop : ∀ (s : Nat) (N : pm_M) (v1 : pm_V), a + s ≤ n → spn ch n 2 500 a = a + s → Lay N → MF [] [25, 26, 27, 28] M N → pm_ct N 116 25 = (a : Int) → pm_ct N 116 26 = ((a + s : Nat) : Int) → Wp (d + 1) 185 220 [(2, ((116 : Nat) : Int)), v1] [] N mc ms Q := by
      intro s N v1 g1 g3 lay mf f25 f26
      have dn := done 2 s an' hka (Or.inr rfl) g3
      have ed : ((a + s : Nat) : Int) - (a : Int) = (s : Int) := by omega
      refine g_aload_n lk_185_220 rfl ?_
      refine g_aload_n lk_185_221 rfl ?_
      refine m_getfield (u := []) (M := N) lk_185_222 rfl (lay.on (by decide) rfl) (v := ((a + s : Nat) : Int)) f26 ?_
      refine g_aload_n lk_185_225 rfl ?_
      refine m_getfield (u := []) (M := N) lk_185_226 rfl (lay.on (by decide) rfl) (v := (a : Int)) f25 ?_
      refine g_isub lk_185_229 ?_
      refine g_top (z := (((a + s : Nat) : Int) - (a : Int))) (z' := (s : Int)) (ed) ?_
      refine g_bipush lk_185_230 ?_
      refine g_icmp (t := 239) lk_185_232 rfl (by first | (unfold pm_inI; omega) | exact pm_and_in _ _ | exact pm_shr_in _ _ | exact pm_or_in _ _ | exact pm_xor_in _ _ | exact pm_shl_in _ _ | exact pm_cmp_in _ _ | exact pm_b8_in _ | (unfold pm_inI; split <;> omega)) (by first | (unfold pm_inI; omega) | exact pm_and_in _ _ | exact pm_shr_in _ _ | exact pm_or_in _ _ | exact pm_xor_in _ _ | exact pm_shl_in _ _ | exact pm_cmp_in _ _ | exact pm_b8_in _ | (unfold pm_inI; split <;> omega)) (fun h1 => ?_) (fun h1 => ?_)
      · replace h1 : (s : Int) ≤ 6 := h1
        refine g_iconst lk_185_239 ?_
        have lay2 : Lay (Mu [(116, pm_upd (pm_ct N 116) 27 2)] N) := lay.muF (l := []) (a := 116) (k := 27) (z := 2) rfl rfl
        refine m_putfield (u := []) (u' := [(116, pm_upd (pm_ct N 116) 27 2)]) (M := N) lk_185_240 rfl (lay.on (by decide) rfl) (fun h => absurd h (by decide)) rfl ?_
        refine g_goto (t := 271) lk_185_243 rfl ?_
        refine g_return lk_185_271 ?_
        refine fin _ N _ 2 s _ rfl lay2 mf (fun k hk => pm_upd_ne (by simp at hk; omega)) f25 f26 rfl rfl (by rw [dn, if_neg (by omega)]) (fun q => by cases q)
      · replace h1 : ¬ ((s : Int) ≤ 6) := h1
        refine g_iconst lk_185_235 ?_
        refine g_goto (t := 240) lk_185_236 rfl ?_
        have lay3 : Lay (Mu [(116, pm_upd (pm_ct N 116) 27 4)] N) := lay.muF (l := []) (a := 116) (k := 27) (z := 4) rfl rfl
        refine m_putfield (u := []) (u' := [(116, pm_upd (pm_ct N 116) 27 4)]) (M := N) lk_185_240 rfl (lay.on (by decide) rfl) (fun h => absurd h (by decide)) rfl ?_
        refine g_goto (t := 271) lk_185_243 rfl ?_
        refine g_return lk_185_271 ?_
        refine fin _ N _ 4 s _ rfl lay3 mf (fun k hk => pm_upd_ne (by simp at hk; omega)) f25 f26 rfl rfl (by rw [dn, if_pos (by omega)]) (fun q => by cases q)
    induction k with
    | zero =>
      intro s N v1 g1 g2 g3 lay mf f25 f26
      have b1 := ba (a + s) lay mf (by omega)
      have c1 := cr (a + s)
      have is := fun (M : pm_M) => c_Mo_isOfRun (d := d) (mc := 0) (ms := 0) (M := M) (z := chv ch n (a + s)) (by omega)
      rw [if_neg (by omega)] at is
      obtain ⟨y, hy⟩ : ∃ y, y = chv ch n (a + s) := ⟨_, rfl⟩
      rw [← hy] at b1 is
      have st := stop s N v1 g1 g3 lay mf f25 f26
      refine g_aload_n lk_185_193 rfl ?_
      refine g_aload_n lk_185_194 rfl ?_
      refine m_getfield (u := []) (M := N) lk_185_195 rfl (lay.on (by decide) rfl) (v := ((a + s : Nat) : Int)) f26 ?_
      refine g_virtual (p := 116) (Qc := _) lk_185_198 rfl (Nat.le_of_ble_eq_true rfl) rfl rfl (lay.on (by decide) rfl) (Nat.le_of_ble_eq_true rfl) (Nat.le_of_ble_eq_true rfl) (Nat.zero_le _) (Nat.zero_le _) (b1) ?_
      rintro _ N1 ⟨rfl, hN1⟩
      rw [hN1]
      show Wp _ 185 201 [(2, ((116 : Nat) : Int)), v1] [(0, y)] N _ _ _
      refine g_static (Qc := _) lk_185_201 (by decide) rfl (Nat.le_of_ble_eq_true rfl) rfl rfl (Nat.le_of_ble_eq_true rfl) (Nat.le_of_ble_eq_true rfl) (Nat.zero_le _) (Nat.zero_le _) (is _) ?_
      rintro _ N2 ⟨rfl, hN2⟩
      rw [hN2]
      show Wp _ 185 204 [(2, ((116 : Nat) : Int)), v1] [(0, 0)] N _ _ _
      refine g_if (t := 220) lk_185_204 rfl (by first | (unfold pm_inI; omega) | exact pm_and_in _ _ | exact pm_shr_in _ _ | exact pm_or_in _ _ | exact pm_xor_in _ _ | exact pm_shl_in _ _ | exact pm_cmp_in _ _ | exact pm_b8_in _ | (unfold pm_inI; split <;> omega)) (fun _ => ?_) (fun h => absurd (show (0 : Int) = (0 : Int) by omega) h)
      exact st
    | succ k ih =>
      intro s N v1 g1 g2 g3 lay mf f25 f26
      replace g3 : spn ch n 2 500 a = if a + s < n ∧ kdc (ch (a + s)) = 2 then spn ch n 2 k (a + s + 1) else a + s := g3
      have b1 := ba (a + s) lay mf (by omega)
      have c1 := cr (a + s)
      have is := fun (M : pm_M) => c_Mo_isOfRun (d := d) (mc := 0) (ms := 0) (M := M) (z := chv ch n (a + s)) (by omega)
      by_cases e2 : a + s < n ∧ kdc (ch (a + s)) = 2
      · rw [if_pos e2] at g3
        have k1 := kdc_2.mp e2.2
        have nx := fun N' => ih (s + 1) N' v1 (by omega) (by omega) (by rw [g3]; rfl)
        rw [if_pos (by omega)] at is
        obtain ⟨y, hy⟩ : ∃ y, y = chv ch n (a + s) := ⟨_, rfl⟩
        rw [← hy] at b1 is
        have e26 : ((a + s : Nat) : Int) + 1 = ((a + (s + 1) : Nat) : Int) := by omega
        clear ih
        refine g_aload_n lk_185_193 rfl ?_
        refine g_aload_n lk_185_194 rfl ?_
        refine m_getfield (u := []) (M := N) lk_185_195 rfl (lay.on (by decide) rfl) (v := ((a + s : Nat) : Int)) f26 ?_
        refine g_virtual (p := 116) (Qc := _) lk_185_198 rfl (Nat.le_of_ble_eq_true rfl) rfl rfl (lay.on (by decide) rfl) (Nat.le_of_ble_eq_true rfl) (Nat.le_of_ble_eq_true rfl) (Nat.zero_le _) (Nat.zero_le _) (b1) ?_
        rintro _ N1 ⟨rfl, hN1⟩
        rw [hN1]
        show Wp _ 185 201 [(2, ((116 : Nat) : Int)), v1] [(0, y)] N _ _ _
        refine g_static (Qc := _) lk_185_201 (by decide) rfl (Nat.le_of_ble_eq_true rfl) rfl rfl (Nat.le_of_ble_eq_true rfl) (Nat.le_of_ble_eq_true rfl) (Nat.zero_le _) (Nat.zero_le _) (is _) ?_
        rintro _ N2 ⟨rfl, hN2⟩
        rw [hN2]
        show Wp _ 185 204 [(2, ((116 : Nat) : Int)), v1] [(0, 1)] N _ _ _
        refine g_if (t := 220) lk_185_204 rfl (by first | (unfold pm_inI; omega) | exact pm_and_in _ _ | exact pm_shr_in _ _ | exact pm_or_in _ _ | exact pm_xor_in _ _ | exact pm_shl_in _ _ | exact pm_cmp_in _ _ | exact pm_b8_in _ | (unfold pm_inI; split <;> omega)) (fun h => absurd h (show ¬ ((1 : Int) = (0 : Int)) by omega)) (fun _ => ?_)
        refine g_aload_n lk_185_207 rfl ?_
        refine g_dup lk_185_208 rfl ?_
        refine m_getfield (u := []) (M := N) lk_185_209 rfl (lay.on (by decide) rfl) (v := ((a + s : Nat) : Int)) f26 ?_
        refine g_iconst lk_185_212 ?_
        refine g_iadd lk_185_213 ?_
        have lay3 : Lay (Mu [(116, pm_upd (pm_ct N 116) 26 (((a + s : Nat) : Int) + 1))] N) := lay.muF (l := []) (a := 116) (k := 26) (z := (((a + s : Nat) : Int) + 1)) rfl rfl
        refine m_putfield (u := []) (u' := [(116, pm_upd (pm_ct N 116) 26 (((a + s : Nat) : Int) + 1))]) (M := N) lk_185_214 rfl (lay.on (by decide) rfl) (fun h => absurd h (by decide)) rfl ?_
        refine g_goto (t := 193) lk_185_217 rfl ?_
        exact nx _ lay3 (mf.trans (MF.mu _ _ rfl (fun k hk => up_out (by decide) hk))) (by rw [Mu_ct]; exact f25) (by rw [Mu_ct]; exact e26)
      · rw [if_neg e2] at g3
        have nk : ¬ ((48 ≤ chv ch n (a + s) ∧ chv ch n (a + s) ≤ 57) ∨ chv ch n (a + s) = 46) := fun q => e2 ⟨by omega, kdc_2.mpr (by omega)⟩
        rw [if_neg nk] at is
        obtain ⟨y, hy⟩ : ∃ y, y = chv ch n (a + s) := ⟨_, rfl⟩
        rw [← hy] at b1 is
        have st := stop s N v1 g1 g3 lay mf f25 f26
        clear ih
        refine g_aload_n lk_185_193 rfl ?_
        refine g_aload_n lk_185_194 rfl ?_
        refine m_getfield (u := []) (M := N) lk_185_195 rfl (lay.on (by decide) rfl) (v := ((a + s : Nat) : Int)) f26 ?_
        refine g_virtual (p := 116) (Qc := _) lk_185_198 rfl (Nat.le_of_ble_eq_true rfl) rfl rfl (lay.on (by decide) rfl) (Nat.le_of_ble_eq_true rfl) (Nat.le_of_ble_eq_true rfl) (Nat.zero_le _) (Nat.zero_le _) (b1) ?_
        rintro _ N1 ⟨rfl, hN1⟩
        rw [hN1]
        show Wp _ 185 201 [(2, ((116 : Nat) : Int)), v1] [(0, y)] N _ _ _
        refine g_static (Qc := _) lk_185_201 (by decide) rfl (Nat.le_of_ble_eq_true rfl) rfl rfl (Nat.le_of_ble_eq_true rfl) (Nat.le_of_ble_eq_true rfl) (Nat.zero_le _) (Nat.zero_le _) (is _) ?_
        rintro _ N2 ⟨rfl, hN2⟩
        rw [hN2]
        show Wp _ 185 204 [(2, ((116 : Nat) : Int)), v1] [(0, 0)] N _ _ _
        refine g_if (t := 220) lk_185_204 rfl (by first | (unfold pm_inI; omega) | exact pm_and_in _ _ | exact pm_shr_in _ _ | exact pm_or_in _ _ | exact pm_xor_in _ _ | exact pm_shl_in _ _ | exact pm_cmp_in _ _ | exact pm_b8_in _ | (unfold pm_inI; split <;> omega)) (fun _ => ?_) (fun h => absurd (show (0 : Int) = (0 : Int) by omega) h)
        exact st
  -- behind the blanks
  have k47 : ∀ (N : pm_M), Lay N → MF [] [25, 26, 27, 28] M N → pm_ct N 116 26 = (a : Int) → Wp (d + 1) 185 47 [(2, ((116 : Nat) : Int)), (9, 0)] [] N mc ms Q := by
    intro N lay mf f26
    have mfu : ∀ (z1 z2 : Int), MF [] [25, 26, 27, 28] M (Mu [(116, pm_upd (pm_upd (pm_ct N 116) 25 z1) 28 z2)] N) := fun z1 z2 => mf.trans (MF.mu _ _ rfl (fun k hk => (up_out (by decide) hk).trans (up_out (by decide) hk)))
    have mf1 : ∀ (z1 : Int), MF [] [25, 26, 27, 28] M (Mu [(116, pm_upd (pm_ct N 116) 25 z1)] N) := fun z1 => mf.trans (MF.mu _ _ rfl (fun k hk => up_out (by decide) hk))
    have c1 := cr a
    have u4 : ∀ (z1 z2 z3 z4 : Int) (k : Nat), k ∉ [25, 26, 27, 28] → pm_upd (pm_upd (pm_upd (pm_upd (pm_ct N 116) 25 z1) 28 z2) 26 z3) 27 z4 k = pm_ct N 116 k := fun z1 z2 z3 z4 k hk => by
      simp at hk
      rw [pm_upd_ne (by omega), pm_upd_ne (by omega), pm_upd_ne (by omega), pm_upd_ne (by omega)]
    have u3 : ∀ (z1 z2 z4 : Int) (k : Nat), k ∉ [25, 26, 27, 28] → pm_upd (pm_upd (pm_upd (pm_ct N 116) 25 z1) 28 z2) 27 z4 k = pm_ct N 116 k := fun z1 z2 z4 k hk => by
      simp at hk
      rw [pm_upd_ne (by omega), pm_upd_ne (by omega), pm_upd_ne (by omega)]
    by_cases e1 : n ≤ a
    · have hl : lxA ch n a = (0, a, a + 0) := by unfold lxA; rw [if_pos e1]; rfl
      have cv : chv ch n a = -1 := by omega
      have b1 : ∀ l, pm_E d 180 [(2, ((116 : Nat) : Int)), (0, (a : Int))] (Mu [(116, pm_upd (pm_ct N 116) 25 (a : Int))] N) 0 0 (fun ρ M' => ρ = some (0, -1) ∧ M' = Mu [(116, pm_upd (pm_ct N 116) 25 (a : Int))] N) := fun l => by
        have := ba a l (mf1 (a : Int)) (by omega)
        rw [cv] at this
        exact this
      refine g_aload_n lk_185_47 rfl ?_
      refine g_aload_n lk_185_48 rfl ?_
      refine m_getfield (u := []) (M := N) lk_185_49 rfl (lay.on (by decide) rfl) (v := (a : Int)) f26 ?_
      have lay1 : Lay (Mu [(116, pm_upd (pm_ct N 116) 25 (a : Int))] N) := lay.muF (l := []) (a := 116) (k := 25) (z := (a : Int)) rfl rfl
      refine m_putfield (u := []) (u' := [(116, pm_upd (pm_ct N 116) 25 (a : Int))]) (M := N) lk_185_52 rfl (lay.on (by decide) rfl) (fun h => absurd h (by decide)) rfl ?_
      refine g_aload_n lk_185_55 rfl ?_
      refine g_aload_n lk_185_56 rfl ?_
      refine m_getfield (u := [(116, pm_upd (pm_ct N 116) 25 (a : Int))]) (M := N) lk_185_57 rfl (lay1.on (by decide) rfl) (v := (a : Int)) rfl ?_
      refine g_virtual (p := 116) (Qc := _) lk_185_60 rfl (Nat.le_of_ble_eq_true rfl) rfl rfl (lay1.on (by decide) rfl) (Nat.le_of_ble_eq_true rfl) (Nat.le_of_ble_eq_true rfl) (Nat.zero_le _) (Nat.zero_le _) (b1 lay1) ?_
      rintro _ N2 ⟨rfl, hN2⟩
      rw [hN2]
      show Wp _ 185 63 [(2, ((116 : Nat) : Int)), (9, 0)] [(0, (-1))] (Mu [(116, pm_upd (pm_ct N 116) 25 (a : Int))] N) _ _ _
      refine g_istore_n (ls' := [(2, ((116 : Nat) : Int)), (0, (-1))]) lk_185_63 rfl rfl ?_
      refine g_aload_n lk_185_64 rfl ?_
      refine g_iconst lk_185_65 ?_
      have lay3 : Lay (Mu [(116, pm_upd (pm_upd (pm_ct N 116) 25 (a : Int)) 28 0)] N) := lay1.muF (l := [(116, pm_upd (pm_ct N 116) 25 (a : Int))]) (a := 116) (k := 28) (z := 0) rfl rfl
      refine m_putfield (u := [(116, pm_upd (pm_ct N 116) 25 (a : Int))]) (u' := [(116, pm_upd (pm_upd (pm_ct N 116) 25 (a : Int)) 28 0)]) (M := N) lk_185_66 rfl (lay1.on (by decide) rfl) (fun h => absurd h (by decide)) rfl ?_
      refine g_iload_n lk_185_69 rfl ?_
      refine g_iconst lk_185_70 ?_
      refine g_icmp (t := 82) lk_185_71 rfl (by first | (unfold pm_inI; omega) | exact pm_and_in _ _ | exact pm_shr_in _ _ | exact pm_or_in _ _ | exact pm_xor_in _ _ | exact pm_shl_in _ _ | exact pm_cmp_in _ _ | exact pm_b8_in _ | (unfold pm_inI; split <;> omega)) (by first | (unfold pm_inI; omega) | exact pm_and_in _ _ | exact pm_shr_in _ _ | exact pm_or_in _ _ | exact pm_xor_in _ _ | exact pm_shl_in _ _ | exact pm_cmp_in _ _ | exact pm_b8_in _ | (unfold pm_inI; split <;> omega)) (fun h => absurd h (show ¬ (¬ (-1 : Int) = (-1 : Int)) by omega)) (fun _ => ?_)
      refine g_aload_n lk_185_74 rfl ?_
      refine g_iconst lk_185_75 ?_
      have lay4 : Lay (Mu [(116, pm_upd (pm_upd (pm_upd (pm_ct N 116) 25 (a : Int)) 28 0) 27 0)] N) := lay3.muF (l := [(116, pm_upd (pm_upd (pm_ct N 116) 25 (a : Int)) 28 0)]) (a := 116) (k := 27) (z := 0) rfl rfl
      refine m_putfield (u := [(116, pm_upd (pm_upd (pm_ct N 116) 25 (a : Int)) 28 0)]) (u' := [(116, pm_upd (pm_upd (pm_upd (pm_ct N 116) 25 (a : Int)) 28 0) 27 0)]) (M := N) lk_185_76 rfl (lay3.on (by decide) rfl) (fun h => absurd h (by decide)) rfl ?_
      refine g_goto (t := 271) lk_185_79 rfl ?_
      refine g_return lk_185_271 ?_
      exact fin _ N _ 0 0 0 rfl lay4 mf (u3 _ _ _) rfl f26 rfl rfl hl (fun q => by cases q)
    · have c256 : ch a < 256 ∧ chv ch n a = (ch a : Int) := by omega
      have b1 : ∀ l, pm_E d 180 [(2, ((116 : Nat) : Int)), (0, (a : Int))] (Mu [(116, pm_upd (pm_ct N 116) 25 (a : Int))] N) 0 0 (fun ρ M' => ρ = some (0, (ch a : Int)) ∧ M' = Mu [(116, pm_upd (pm_ct N 116) 25 (a : Int))] N) := fun l => by
        have := ba a l (mf1 (a : Int)) (by omega)
        rw [c256.2] at this
        exact this
      have is := fun (M : pm_M) => c_Mo_isSmall (d := d) (mc := 0) (ms := 0) (M := M) (z := (ch a : Int)) (by omega)
      have ir := fun (M : pm_M) => c_Mo_isOfRun (d := d) (mc := 0) (ms := 0) (M := M) (z := (ch a : Int)) (by omega)
      have wd1 := fun (q : kdc (ch a) = 1) => words (by omega) q 500 0
      have rn1 := fun (q : kdc (ch a) = 2) => runs (by omega) q 500 0
      have q1 := kdc_11 (c := ch a)
      have q2 := kdc_2 (c := ch a)
      have q3 := kdc_3 (c := ch a)
      have kr := kdc_r (ch a)
      have hl : kdc (ch a) = 3 ∨ kdc (ch a) = 4 → lxA ch n a = (kdc (ch a), a, a + 1) := fun q => by unfold lxA; rw [if_neg e1, if_pos q]
      obtain ⟨c, hc⟩ : ∃ c, c = ch a := ⟨_, rfl⟩
      rw [← hc] at b1 is ir c256
      by_cases e2 : kdc (ch a) = 1
      · rw [if_pos (by omega)] at is
        refine g_aload_n lk_185_47 rfl ?_
        refine g_aload_n lk_185_48 rfl ?_
        refine m_getfield (u := []) (M := N) lk_185_49 rfl (lay.on (by decide) rfl) (v := (a : Int)) f26 ?_
        have lay1 : Lay (Mu [(116, pm_upd (pm_ct N 116) 25 (a : Int))] N) := lay.muF (l := []) (a := 116) (k := 25) (z := (a : Int)) rfl rfl
        refine m_putfield (u := []) (u' := [(116, pm_upd (pm_ct N 116) 25 (a : Int))]) (M := N) lk_185_52 rfl (lay.on (by decide) rfl) (fun h => absurd h (by decide)) rfl ?_
        refine g_aload_n lk_185_55 rfl ?_
        refine g_aload_n lk_185_56 rfl ?_
        refine m_getfield (u := [(116, pm_upd (pm_ct N 116) 25 (a : Int))]) (M := N) lk_185_57 rfl (lay1.on (by decide) rfl) (v := (a : Int)) rfl ?_
        refine g_virtual (p := 116) (Qc := _) lk_185_60 rfl (Nat.le_of_ble_eq_true rfl) rfl rfl (lay1.on (by decide) rfl) (Nat.le_of_ble_eq_true rfl) (Nat.le_of_ble_eq_true rfl) (Nat.zero_le _) (Nat.zero_le _) (b1 lay1) ?_
        rintro _ N2 ⟨rfl, hN2⟩
        rw [hN2]
        show Wp _ 185 63 [(2, ((116 : Nat) : Int)), (9, 0)] [(0, (c : Int))] (Mu [(116, pm_upd (pm_ct N 116) 25 (a : Int))] N) _ _ _
        refine g_istore_n (ls' := [(2, ((116 : Nat) : Int)), (0, (c : Int))]) lk_185_63 rfl rfl ?_
        refine g_aload_n lk_185_64 rfl ?_
        refine g_iconst lk_185_65 ?_
        have lay3 : Lay (Mu [(116, pm_upd (pm_upd (pm_ct N 116) 25 (a : Int)) 28 0)] N) := lay1.muF (l := [(116, pm_upd (pm_ct N 116) 25 (a : Int))]) (a := 116) (k := 28) (z := 0) rfl rfl
        refine m_putfield (u := [(116, pm_upd (pm_ct N 116) 25 (a : Int))]) (u' := [(116, pm_upd (pm_upd (pm_ct N 116) 25 (a : Int)) 28 0)]) (M := N) lk_185_66 rfl (lay1.on (by decide) rfl) (fun h => absurd h (by decide)) rfl ?_
        refine g_iload_n lk_185_69 rfl ?_
        refine g_iconst lk_185_70 ?_
        refine g_icmp (t := 82) lk_185_71 rfl (by first | (unfold pm_inI; omega) | exact pm_and_in _ _ | exact pm_shr_in _ _ | exact pm_or_in _ _ | exact pm_xor_in _ _ | exact pm_shl_in _ _ | exact pm_cmp_in _ _ | exact pm_b8_in _ | (unfold pm_inI; split <;> omega)) (by first | (unfold pm_inI; omega) | exact pm_and_in _ _ | exact pm_shr_in _ _ | exact pm_or_in _ _ | exact pm_xor_in _ _ | exact pm_shl_in _ _ | exact pm_cmp_in _ _ | exact pm_b8_in _ | (unfold pm_inI; split <;> omega)) (fun h4 => ?_) (fun h4 => ?_)
        · replace h4 : ¬ (c : Int) = (-1) := h4
          refine g_iload_n lk_185_82 rfl ?_
          refine g_static (Qc := _) lk_185_83 (by decide) rfl (Nat.le_of_ble_eq_true rfl) rfl rfl (Nat.le_of_ble_eq_true rfl) (Nat.le_of_ble_eq_true rfl) (Nat.zero_le _) (Nat.zero_le _) (is _) ?_
          rintro _ N5 ⟨rfl, hN5⟩
          rw [hN5]
          show Wp _ 185 86 [(2, ((116 : Nat) : Int)), (0, (c : Int))] [(0, 1)] (Mu [(116, pm_upd (pm_upd (pm_ct N 116) 25 (a : Int)) 28 0)] N) _ _ _
          refine g_if (t := 186) lk_185_86 rfl (by first | (unfold pm_inI; omega) | exact pm_and_in _ _ | exact pm_shr_in _ _ | exact pm_or_in _ _ | exact pm_xor_in _ _ | exact pm_shl_in _ _ | exact pm_cmp_in _ _ | exact pm_b8_in _ | (unfold pm_inI; split <;> omega)) (fun h => absurd h (show ¬ ((1 : Int) = (0 : Int)) by omega)) (fun _ => ?_)
          exact wd1 e2 _ 0 _ (by omega) (by omega) rfl lay3 (mfu _ _) (by rw [Mu_ct]; rfl) (by rw [Mu_ct]; exact f26) (by rw [Mu_ct]; rfl) (fun _ => rfl)
        · replace h4 : ¬ (¬ (c : Int) = (-1)) := h4
          omega
      have e2' : ¬ (97 ≤ (c : Int) ∧ (c : Int) ≤ 122) := fun q => e2 (q1.mpr (by omega))
      rw [if_neg e2'] at is
      by_cases e3 : kdc (ch a) = 2
      · rw [if_pos (by have := q2.mp e3; omega)] at ir
        refine g_aload_n lk_185_47 rfl ?_
        refine g_aload_n lk_185_48 rfl ?_
        refine m_getfield (u := []) (M := N) lk_185_49 rfl (lay.on (by decide) rfl) (v := (a : Int)) f26 ?_
        have lay1 : Lay (Mu [(116, pm_upd (pm_ct N 116) 25 (a : Int))] N) := lay.muF (l := []) (a := 116) (k := 25) (z := (a : Int)) rfl rfl
        refine m_putfield (u := []) (u' := [(116, pm_upd (pm_ct N 116) 25 (a : Int))]) (M := N) lk_185_52 rfl (lay.on (by decide) rfl) (fun h => absurd h (by decide)) rfl ?_
        refine g_aload_n lk_185_55 rfl ?_
        refine g_aload_n lk_185_56 rfl ?_
        refine m_getfield (u := [(116, pm_upd (pm_ct N 116) 25 (a : Int))]) (M := N) lk_185_57 rfl (lay1.on (by decide) rfl) (v := (a : Int)) rfl ?_
        refine g_virtual (p := 116) (Qc := _) lk_185_60 rfl (Nat.le_of_ble_eq_true rfl) rfl rfl (lay1.on (by decide) rfl) (Nat.le_of_ble_eq_true rfl) (Nat.le_of_ble_eq_true rfl) (Nat.zero_le _) (Nat.zero_le _) (b1 lay1) ?_
        rintro _ N2 ⟨rfl, hN2⟩
        rw [hN2]
        show Wp _ 185 63 [(2, ((116 : Nat) : Int)), (9, 0)] [(0, (c : Int))] (Mu [(116, pm_upd (pm_ct N 116) 25 (a : Int))] N) _ _ _
        refine g_istore_n (ls' := [(2, ((116 : Nat) : Int)), (0, (c : Int))]) lk_185_63 rfl rfl ?_
        refine g_aload_n lk_185_64 rfl ?_
        refine g_iconst lk_185_65 ?_
        have lay3 : Lay (Mu [(116, pm_upd (pm_upd (pm_ct N 116) 25 (a : Int)) 28 0)] N) := lay1.muF (l := [(116, pm_upd (pm_ct N 116) 25 (a : Int))]) (a := 116) (k := 28) (z := 0) rfl rfl
        refine m_putfield (u := [(116, pm_upd (pm_ct N 116) 25 (a : Int))]) (u' := [(116, pm_upd (pm_upd (pm_ct N 116) 25 (a : Int)) 28 0)]) (M := N) lk_185_66 rfl (lay1.on (by decide) rfl) (fun h => absurd h (by decide)) rfl ?_
        refine g_iload_n lk_185_69 rfl ?_
        refine g_iconst lk_185_70 ?_
        refine g_icmp (t := 82) lk_185_71 rfl (by first | (unfold pm_inI; omega) | exact pm_and_in _ _ | exact pm_shr_in _ _ | exact pm_or_in _ _ | exact pm_xor_in _ _ | exact pm_shl_in _ _ | exact pm_cmp_in _ _ | exact pm_b8_in _ | (unfold pm_inI; split <;> omega)) (by first | (unfold pm_inI; omega) | exact pm_and_in _ _ | exact pm_shr_in _ _ | exact pm_or_in _ _ | exact pm_xor_in _ _ | exact pm_shl_in _ _ | exact pm_cmp_in _ _ | exact pm_b8_in _ | (unfold pm_inI; split <;> omega)) (fun h4 => ?_) (fun h4 => ?_)
        · replace h4 : ¬ (c : Int) = (-1) := h4
          refine g_iload_n lk_185_82 rfl ?_
          refine g_static (Qc := _) lk_185_83 (by decide) rfl (Nat.le_of_ble_eq_true rfl) rfl rfl (Nat.le_of_ble_eq_true rfl) (Nat.le_of_ble_eq_true rfl) (Nat.zero_le _) (Nat.zero_le _) (is _) ?_
          rintro _ N5 ⟨rfl, hN5⟩
          rw [hN5]
          show Wp _ 185 86 [(2, ((116 : Nat) : Int)), (0, (c : Int))] [(0, 0)] (Mu [(116, pm_upd (pm_upd (pm_ct N 116) 25 (a : Int)) 28 0)] N) _ _ _
          refine g_if (t := 186) lk_185_86 rfl (by first | (unfold pm_inI; omega) | exact pm_and_in _ _ | exact pm_shr_in _ _ | exact pm_or_in _ _ | exact pm_xor_in _ _ | exact pm_shl_in _ _ | exact pm_cmp_in _ _ | exact pm_b8_in _ | (unfold pm_inI; split <;> omega)) (fun _ => ?_) (fun h => absurd (show (0 : Int) = (0 : Int) by omega) h)
          refine g_iload_n lk_185_186 rfl ?_
          refine g_static (Qc := _) lk_185_187 (by decide) rfl (Nat.le_of_ble_eq_true rfl) rfl rfl (Nat.le_of_ble_eq_true rfl) (Nat.le_of_ble_eq_true rfl) (Nat.zero_le _) (Nat.zero_le _) (ir _) ?_
          rintro _ N6 ⟨rfl, hN6⟩
          rw [hN6]
          show Wp _ 185 190 [(2, ((116 : Nat) : Int)), (0, (c : Int))] [(0, 1)] (Mu [(116, pm_upd (pm_upd (pm_ct N 116) 25 (a : Int)) 28 0)] N) _ _ _
          refine g_if (t := 246) lk_185_190 rfl (by first | (unfold pm_inI; omega) | exact pm_and_in _ _ | exact pm_shr_in _ _ | exact pm_or_in _ _ | exact pm_xor_in _ _ | exact pm_shl_in _ _ | exact pm_cmp_in _ _ | exact pm_b8_in _ | (unfold pm_inI; split <;> omega)) (fun h => absurd h (show ¬ ((1 : Int) = (0 : Int)) by omega)) (fun _ => ?_)
          exact rn1 e3 _ _ (by omega) (by omega) rfl lay3 (mfu _ _) (by rw [Mu_ct]; rfl) (by rw [Mu_ct]; exact f26)
        · replace h4 : ¬ (¬ (c : Int) = (-1)) := h4
          omega
      have e3' : ¬ ((48 ≤ (c : Int) ∧ (c : Int) ≤ 57) ∨ (c : Int) = 46) := fun q => e3 (q2.mpr (by omega))
      rw [if_neg e3'] at ir
      have hl' := hl (by omega)
      have e26 : (a : Int) + 1 = ((a + 1 : Nat) : Int) := by omega
      refine g_aload_n lk_185_47 rfl ?_
      refine g_aload_n lk_185_48 rfl ?_
      refine m_getfield (u := []) (M := N) lk_185_49 rfl (lay.on (by decide) rfl) (v := (a : Int)) f26 ?_
      have lay1 : Lay (Mu [(116, pm_upd (pm_ct N 116) 25 (a : Int))] N) := lay.muF (l := []) (a := 116) (k := 25) (z := (a : Int)) rfl rfl
      refine m_putfield (u := []) (u' := [(116, pm_upd (pm_ct N 116) 25 (a : Int))]) (M := N) lk_185_52 rfl (lay.on (by decide) rfl) (fun h => absurd h (by decide)) rfl ?_
      refine g_aload_n lk_185_55 rfl ?_
      refine g_aload_n lk_185_56 rfl ?_
      refine m_getfield (u := [(116, pm_upd (pm_ct N 116) 25 (a : Int))]) (M := N) lk_185_57 rfl (lay1.on (by decide) rfl) (v := (a : Int)) rfl ?_
      refine g_virtual (p := 116) (Qc := _) lk_185_60 rfl (Nat.le_of_ble_eq_true rfl) rfl rfl (lay1.on (by decide) rfl) (Nat.le_of_ble_eq_true rfl) (Nat.le_of_ble_eq_true rfl) (Nat.zero_le _) (Nat.zero_le _) (b1 lay1) ?_
      rintro _ N2 ⟨rfl, hN2⟩
      rw [hN2]
      show Wp _ 185 63 [(2, ((116 : Nat) : Int)), (9, 0)] [(0, (c : Int))] (Mu [(116, pm_upd (pm_ct N 116) 25 (a : Int))] N) _ _ _
      refine g_istore_n (ls' := [(2, ((116 : Nat) : Int)), (0, (c : Int))]) lk_185_63 rfl rfl ?_
      refine g_aload_n lk_185_64 rfl ?_
      refine g_iconst lk_185_65 ?_
      have lay3 : Lay (Mu [(116, pm_upd (pm_upd (pm_ct N 116) 25 (a : Int)) 28 0)] N) := lay1.muF (l := [(116, pm_upd (pm_ct N 116) 25 (a : Int))]) (a := 116) (k := 28) (z := 0) rfl rfl
      refine m_putfield (u := [(116, pm_upd (pm_ct N 116) 25 (a : Int))]) (u' := [(116, pm_upd (pm_upd (pm_ct N 116) 25 (a : Int)) 28 0)]) (M := N) lk_185_66 rfl (lay1.on (by decide) rfl) (fun h => absurd h (by decide)) rfl ?_
      refine g_iload_n lk_185_69 rfl ?_
      refine g_iconst lk_185_70 ?_
      refine g_icmp (t := 82) lk_185_71 rfl (by first | (unfold pm_inI; omega) | exact pm_and_in _ _ | exact pm_shr_in _ _ | exact pm_or_in _ _ | exact pm_xor_in _ _ | exact pm_shl_in _ _ | exact pm_cmp_in _ _ | exact pm_b8_in _ | (unfold pm_inI; split <;> omega)) (by first | (unfold pm_inI; omega) | exact pm_and_in _ _ | exact pm_shr_in _ _ | exact pm_or_in _ _ | exact pm_xor_in _ _ | exact pm_shl_in _ _ | exact pm_cmp_in _ _ | exact pm_b8_in _ | (unfold pm_inI; split <;> omega)) (fun h4 => ?_) (fun h4 => ?_)
      · replace h4 : ¬ (c : Int) = (-1) := h4
        refine g_iload_n lk_185_82 rfl ?_
        refine g_static (Qc := _) lk_185_83 (by decide) rfl (Nat.le_of_ble_eq_true rfl) rfl rfl (Nat.le_of_ble_eq_true rfl) (Nat.le_of_ble_eq_true rfl) (Nat.zero_le _) (Nat.zero_le _) (is _) ?_
        rintro _ N5 ⟨rfl, hN5⟩
        rw [hN5]
        show Wp _ 185 86 [(2, ((116 : Nat) : Int)), (0, (c : Int))] [(0, 0)] (Mu [(116, pm_upd (pm_upd (pm_ct N 116) 25 (a : Int)) 28 0)] N) _ _ _
        refine g_if (t := 186) lk_185_86 rfl (by first | (unfold pm_inI; omega) | exact pm_and_in _ _ | exact pm_shr_in _ _ | exact pm_or_in _ _ | exact pm_xor_in _ _ | exact pm_shl_in _ _ | exact pm_cmp_in _ _ | exact pm_b8_in _ | (unfold pm_inI; split <;> omega)) (fun _ => ?_) (fun h => absurd (show (0 : Int) = (0 : Int) by omega) h)
        refine g_iload_n lk_185_186 rfl ?_
        refine g_static (Qc := _) lk_185_187 (by decide) rfl (Nat.le_of_ble_eq_true rfl) rfl rfl (Nat.le_of_ble_eq_true rfl) (Nat.le_of_ble_eq_true rfl) (Nat.zero_le _) (Nat.zero_le _) (ir _) ?_
        rintro _ N6 ⟨rfl, hN6⟩
        rw [hN6]
        show Wp _ 185 190 [(2, ((116 : Nat) : Int)), (0, (c : Int))] [(0, 0)] (Mu [(116, pm_upd (pm_upd (pm_ct N 116) 25 (a : Int)) 28 0)] N) _ _ _
        refine g_if (t := 246) lk_185_190 rfl (by first | (unfold pm_inI; omega) | exact pm_and_in _ _ | exact pm_shr_in _ _ | exact pm_or_in _ _ | exact pm_xor_in _ _ | exact pm_shl_in _ _ | exact pm_cmp_in _ _ | exact pm_b8_in _ | (unfold pm_inI; split <;> omega)) (fun _ => ?_) (fun h => absurd (show (0 : Int) = (0 : Int) by omega) h)
        refine g_aload_n lk_185_246 rfl ?_
        refine g_dup lk_185_247 rfl ?_
        refine m_getfield (u := [(116, pm_upd (pm_upd (pm_ct N 116) 25 (a : Int)) 28 0)]) (M := N) lk_185_248 rfl (lay3.on (by decide) rfl) (v := (a : Int)) f26 ?_
        refine g_iconst lk_185_251 ?_
        refine g_iadd lk_185_252 ?_
        refine g_top (z := ((a : Int) + 1)) (z' := ((a + 1 : Nat) : Int)) (e26) ?_
        have lay7 : Lay (Mu [(116, pm_upd (pm_upd (pm_upd (pm_ct N 116) 25 (a : Int)) 28 0) 26 ((a + 1 : Nat) : Int))] N) := lay3.muF (l := [(116, pm_upd (pm_upd (pm_ct N 116) 25 (a : Int)) 28 0)]) (a := 116) (k := 26) (z := ((a + 1 : Nat) : Int)) rfl rfl
        refine m_putfield (u := [(116, pm_upd (pm_upd (pm_ct N 116) 25 (a : Int)) 28 0)]) (u' := [(116, pm_upd (pm_upd (pm_upd (pm_ct N 116) 25 (a : Int)) 28 0) 26 ((a + 1 : Nat) : Int))]) (M := N) lk_185_253 rfl (lay3.on (by decide) rfl) (fun h => absurd h (by decide)) rfl ?_
        refine g_aload_n lk_185_256 rfl ?_
        refine g_iload_n lk_185_257 rfl ?_
        refine g_bipush lk_185_258 ?_
        refine g_icmp (t := 267) lk_185_260 rfl (by first | (unfold pm_inI; omega) | exact pm_and_in _ _ | exact pm_shr_in _ _ | exact pm_or_in _ _ | exact pm_xor_in _ _ | exact pm_shl_in _ _ | exact pm_cmp_in _ _ | exact pm_b8_in _ | (unfold pm_inI; split <;> omega)) (by first | (unfold pm_inI; omega) | exact pm_and_in _ _ | exact pm_shr_in _ _ | exact pm_or_in _ _ | exact pm_xor_in _ _ | exact pm_shl_in _ _ | exact pm_cmp_in _ _ | exact pm_b8_in _ | (unfold pm_inI; split <;> omega)) (fun h8 => ?_) (fun h8 => ?_)
        · replace h8 : ¬ (c : Int) = 59 := h8
          refine g_iconst lk_185_267 ?_
          have lay9 : Lay (Mu [(116, pm_upd (pm_upd (pm_upd (pm_upd (pm_ct N 116) 25 (a : Int)) 28 0) 26 ((a + 1 : Nat) : Int)) 27 4)] N) := lay7.muF (l := [(116, pm_upd (pm_upd (pm_upd (pm_ct N 116) 25 (a : Int)) 28 0) 26 ((a + 1 : Nat) : Int))]) (a := 116) (k := 27) (z := 4) rfl rfl
          refine m_putfield (u := [(116, pm_upd (pm_upd (pm_upd (pm_ct N 116) 25 (a : Int)) 28 0) 26 ((a + 1 : Nat) : Int))]) (u' := [(116, pm_upd (pm_upd (pm_upd (pm_upd (pm_ct N 116) 25 (a : Int)) 28 0) 26 ((a + 1 : Nat) : Int)) 27 4)]) (M := N) lk_185_268 rfl (lay7.on (by decide) rfl) (fun h => absurd h (by decide)) rfl ?_
          refine g_return lk_185_271 ?_
          exact fin _ N _ 4 1 0 rfl lay9 mf (u4 _ _ _ _) rfl rfl rfl rfl (by rw [hl', show kdc (ch a) = 4 by omega]) (fun q => by cases q)
        · replace h8 : ¬ (¬ (c : Int) = 59) := h8
          refine g_iconst lk_185_263 ?_
          refine g_goto (t := 268) lk_185_264 rfl ?_
          have lay10 : Lay (Mu [(116, pm_upd (pm_upd (pm_upd (pm_upd (pm_ct N 116) 25 (a : Int)) 28 0) 26 ((a + 1 : Nat) : Int)) 27 3)] N) := lay7.muF (l := [(116, pm_upd (pm_upd (pm_upd (pm_ct N 116) 25 (a : Int)) 28 0) 26 ((a + 1 : Nat) : Int))]) (a := 116) (k := 27) (z := 3) rfl rfl
          refine m_putfield (u := [(116, pm_upd (pm_upd (pm_upd (pm_ct N 116) 25 (a : Int)) 28 0) 26 ((a + 1 : Nat) : Int))]) (u' := [(116, pm_upd (pm_upd (pm_upd (pm_upd (pm_ct N 116) 25 (a : Int)) 28 0) 26 ((a + 1 : Nat) : Int)) 27 3)]) (M := N) lk_185_268 rfl (lay7.on (by decide) rfl) (fun h => absurd h (by decide)) rfl ?_
          refine g_return lk_185_271 ?_
          exact fin _ N _ 3 1 0 rfl lay10 mf (u4 _ _ _ _) rfl rfl rfl rfl (by rw [hl', show kdc (ch a) = 3 from q3.mpr (by omega)]) (fun q => by cases q)
      · replace h4 : ¬ (¬ (c : Int) = (-1)) := h4
        omega
  have skip : ∀ (k q : Nat) (N : pm_M), q ≤ n → n ≤ q + k → a = skp ch n k q → Lay N → MF [] [25, 26, 27, 28] M N → pm_ct N 116 26 = (q : Int) → Wp (d + 1) 185 8 [(2, ((116 : Nat) : Int)), (9, 0)] [] N mc ms Q := by
    intro k
    induction k with
    | zero =>
      intro q N qn hq haq lay mf f26
      have e : a = q := haq
      rw [← e] at f26
      have b1 := ba a lay mf (by omega)
      have cv : chv ch n a = -1 := by have := cr a; omega
      rw [cv] at b1
      have kk := k47 N lay mf f26
      refine g_aload_n lk_185_8 rfl ?_
      refine g_aload_n lk_185_9 rfl ?_
      refine m_getfield (u := []) (M := N) lk_185_10 rfl (lay.on (by decide) rfl) (v := (a : Int)) f26 ?_
      refine g_virtual (p := 116) (Qc := _) lk_185_13 rfl (Nat.le_of_ble_eq_true rfl) rfl rfl (lay.on (by decide) rfl) (Nat.le_of_ble_eq_true rfl) (Nat.le_of_ble_eq_true rfl) (Nat.zero_le _) (Nat.zero_le _) (b1) ?_
      rintro _ N1 ⟨rfl, hN1⟩
      rw [hN1]
      show Wp _ 185 16 [(2, ((116 : Nat) : Int)), (9, 0)] [(0, (-1))] N _ _ _
      refine g_bipush lk_185_16 ?_
      refine g_icmp (t := 34) lk_185_18 rfl (by first | (unfold pm_inI; omega) | exact pm_and_in _ _ | exact pm_shr_in _ _ | exact pm_or_in _ _ | exact pm_xor_in _ _ | exact pm_shl_in _ _ | exact pm_cmp_in _ _ | exact pm_b8_in _ | (unfold pm_inI; split <;> omega)) (by first | (unfold pm_inI; omega) | exact pm_and_in _ _ | exact pm_shr_in _ _ | exact pm_or_in _ _ | exact pm_xor_in _ _ | exact pm_shl_in _ _ | exact pm_cmp_in _ _ | exact pm_b8_in _ | (unfold pm_inI; split <;> omega)) (fun h => absurd h (show ¬ ((-1 : Int) = (32 : Int)) by omega)) (fun _ => ?_)
      refine g_aload_n lk_185_21 rfl ?_
      refine g_aload_n lk_185_22 rfl ?_
      refine m_getfield (u := []) (M := N) lk_185_23 rfl (lay.on (by decide) rfl) (v := (a : Int)) f26 ?_
      refine g_virtual (p := 116) (Qc := _) lk_185_26 rfl (Nat.le_of_ble_eq_true rfl) rfl rfl (lay.on (by decide) rfl) (Nat.le_of_ble_eq_true rfl) (Nat.le_of_ble_eq_true rfl) (Nat.zero_le _) (Nat.zero_le _) (b1) ?_
      rintro _ N2 ⟨rfl, hN2⟩
      rw [hN2]
      show Wp _ 185 29 [(2, ((116 : Nat) : Int)), (9, 0)] [(0, (-1))] N _ _ _
      refine g_bipush lk_185_29 ?_
      refine g_icmp (t := 47) lk_185_31 rfl (by first | (unfold pm_inI; omega) | exact pm_and_in _ _ | exact pm_shr_in _ _ | exact pm_or_in _ _ | exact pm_xor_in _ _ | exact pm_shl_in _ _ | exact pm_cmp_in _ _ | exact pm_b8_in _ | (unfold pm_inI; split <;> omega)) (by first | (unfold pm_inI; omega) | exact pm_and_in _ _ | exact pm_shr_in _ _ | exact pm_or_in _ _ | exact pm_xor_in _ _ | exact pm_shl_in _ _ | exact pm_cmp_in _ _ | exact pm_b8_in _ | (unfold pm_inI; split <;> omega)) (fun _ => ?_) (fun h => absurd (show ¬ (-1 : Int) = (10 : Int) by omega) h)
      exact kk
    | succ k ih =>
      intro q N qn hq haq lay mf f26
      replace haq : a = if q < n ∧ (ch q = 32 ∨ ch q = 10) then skp ch n k (q + 1) else q := haq
      have b1 := ba q lay mf (by omega)
      have c1 := cr q
      have nx := fun N' => ih (q + 1) N'
      clear ih
      by_cases e2 : q < n ∧ (ch q = 32 ∨ ch q = 10)
      · rw [if_pos e2] at haq
        have go : ∀ (N' : pm_M) (z : Int), N' = Mu [(116, pm_upd (pm_ct N 116) 26 z)] N → Lay N' → z = ((q + 1 : Nat) : Int) → Wp (d + 1) 185 8 [(2, ((116 : Nat) : Int)), (9, 0)] [] N' mc ms Q := fun N' z hN' l1 hz => by
          refine nx N' (by omega) (by omega) haq l1 ?_ ?_
          · rw [hN']
            exact mf.trans (MF.mu _ _ rfl (fun k hk => up_out (by decide) hk))
          · rw [hN', Mu_ct, ← hz]; rfl
        obtain ⟨y, hy⟩ : ∃ y, y = chv ch n q := ⟨_, rfl⟩
        rw [← hy] at b1 c1
        refine g_aload_n lk_185_8 rfl ?_
        refine g_aload_n lk_185_9 rfl ?_
        refine m_getfield (u := []) (M := N) lk_185_10 rfl (lay.on (by decide) rfl) (v := (q : Int)) f26 ?_
        refine g_virtual (p := 116) (Qc := _) lk_185_13 rfl (Nat.le_of_ble_eq_true rfl) rfl rfl (lay.on (by decide) rfl) (Nat.le_of_ble_eq_true rfl) (Nat.le_of_ble_eq_true rfl) (Nat.zero_le _) (Nat.zero_le _) (b1) ?_
        rintro _ N1 ⟨rfl, hN1⟩
        rw [hN1]
        show Wp _ 185 16 [(2, ((116 : Nat) : Int)), (9, 0)] [(0, y)] N _ _ _
        refine g_bipush lk_185_16 ?_
        refine g_icmp (t := 34) lk_185_18 rfl (by first | (unfold pm_inI; omega) | exact pm_and_in _ _ | exact pm_shr_in _ _ | exact pm_or_in _ _ | exact pm_xor_in _ _ | exact pm_shl_in _ _ | exact pm_cmp_in _ _ | exact pm_b8_in _ | (unfold pm_inI; split <;> omega)) (by first | (unfold pm_inI; omega) | exact pm_and_in _ _ | exact pm_shr_in _ _ | exact pm_or_in _ _ | exact pm_xor_in _ _ | exact pm_shl_in _ _ | exact pm_cmp_in _ _ | exact pm_b8_in _ | (unfold pm_inI; split <;> omega)) (fun h2 => ?_) (fun h2 => ?_)
        · replace h2 : y = 32 := h2
          refine g_aload_n lk_185_34 rfl ?_
          refine g_dup lk_185_35 rfl ?_
          refine m_getfield (u := []) (M := N) lk_185_36 rfl (lay.on (by decide) rfl) (v := (q : Int)) f26 ?_
          refine g_iconst lk_185_39 ?_
          refine g_iadd lk_185_40 ?_
          have lay3 : Lay (Mu [(116, pm_upd (pm_ct N 116) 26 ((q : Int) + 1))] N) := lay.muF (l := []) (a := 116) (k := 26) (z := ((q : Int) + 1)) rfl rfl
          refine m_putfield (u := []) (u' := [(116, pm_upd (pm_ct N 116) 26 ((q : Int) + 1))]) (M := N) lk_185_41 rfl (lay.on (by decide) rfl) (fun h => absurd h (by decide)) rfl ?_
          refine g_goto (t := 8) lk_185_44 rfl ?_
          exact go _ _ rfl lay3 (by omega)
        · replace h2 : ¬ (y = 32) := h2
          refine g_aload_n lk_185_21 rfl ?_
          refine g_aload_n lk_185_22 rfl ?_
          refine m_getfield (u := []) (M := N) lk_185_23 rfl (lay.on (by decide) rfl) (v := (q : Int)) f26 ?_
          refine g_virtual (p := 116) (Qc := _) lk_185_26 rfl (Nat.le_of_ble_eq_true rfl) rfl rfl (lay.on (by decide) rfl) (Nat.le_of_ble_eq_true rfl) (Nat.le_of_ble_eq_true rfl) (Nat.zero_le _) (Nat.zero_le _) (b1) ?_
          rintro _ N4 ⟨rfl, hN4⟩
          rw [hN4]
          show Wp _ 185 29 [(2, ((116 : Nat) : Int)), (9, 0)] [(0, y)] N _ _ _
          refine g_bipush lk_185_29 ?_
          refine g_icmp (t := 47) lk_185_31 rfl (by first | (unfold pm_inI; omega) | exact pm_and_in _ _ | exact pm_shr_in _ _ | exact pm_or_in _ _ | exact pm_xor_in _ _ | exact pm_shl_in _ _ | exact pm_cmp_in _ _ | exact pm_b8_in _ | (unfold pm_inI; split <;> omega)) (by first | (unfold pm_inI; omega) | exact pm_and_in _ _ | exact pm_shr_in _ _ | exact pm_or_in _ _ | exact pm_xor_in _ _ | exact pm_shl_in _ _ | exact pm_cmp_in _ _ | exact pm_b8_in _ | (unfold pm_inI; split <;> omega)) (fun h5 => ?_) (fun h5 => ?_)
          · replace h5 : ¬ y = 10 := h5
            omega
          · replace h5 : ¬ (¬ y = 10) := h5
            refine g_aload_n lk_185_34 rfl ?_
            refine g_dup lk_185_35 rfl ?_
            refine m_getfield (u := []) (M := N) lk_185_36 rfl (lay.on (by decide) rfl) (v := (q : Int)) f26 ?_
            refine g_iconst lk_185_39 ?_
            refine g_iadd lk_185_40 ?_
            have lay6 : Lay (Mu [(116, pm_upd (pm_ct N 116) 26 ((q : Int) + 1))] N) := lay.muF (l := []) (a := 116) (k := 26) (z := ((q : Int) + 1)) rfl rfl
            refine m_putfield (u := []) (u' := [(116, pm_upd (pm_ct N 116) 26 ((q : Int) + 1))]) (M := N) lk_185_41 rfl (lay.on (by decide) rfl) (fun h => absurd h (by decide)) rfl ?_
            refine g_goto (t := 8) lk_185_44 rfl ?_
            exact go _ _ rfl lay6 (by omega)
      · rw [if_neg e2] at haq
        have kk := k47 N lay mf (by rw [haq]; exact f26)
        rw [← haq] at f26 b1 c1 e2
        obtain ⟨y, hy⟩ : ∃ y, y = chv ch n a := ⟨_, rfl⟩
        rw [← hy] at b1 c1
        refine g_aload_n lk_185_8 rfl ?_
        refine g_aload_n lk_185_9 rfl ?_
        refine m_getfield (u := []) (M := N) lk_185_10 rfl (lay.on (by decide) rfl) (v := (a : Int)) f26 ?_
        refine g_virtual (p := 116) (Qc := _) lk_185_13 rfl (Nat.le_of_ble_eq_true rfl) rfl rfl (lay.on (by decide) rfl) (Nat.le_of_ble_eq_true rfl) (Nat.le_of_ble_eq_true rfl) (Nat.zero_le _) (Nat.zero_le _) (b1) ?_
        rintro _ N1 ⟨rfl, hN1⟩
        rw [hN1]
        show Wp _ 185 16 [(2, ((116 : Nat) : Int)), (9, 0)] [(0, y)] N _ _ _
        refine g_bipush lk_185_16 ?_
        refine g_icmp (t := 34) lk_185_18 rfl (by first | (unfold pm_inI; omega) | exact pm_and_in _ _ | exact pm_shr_in _ _ | exact pm_or_in _ _ | exact pm_xor_in _ _ | exact pm_shl_in _ _ | exact pm_cmp_in _ _ | exact pm_b8_in _ | (unfold pm_inI; split <;> omega)) (by first | (unfold pm_inI; omega) | exact pm_and_in _ _ | exact pm_shr_in _ _ | exact pm_or_in _ _ | exact pm_xor_in _ _ | exact pm_shl_in _ _ | exact pm_cmp_in _ _ | exact pm_b8_in _ | (unfold pm_inI; split <;> omega)) (fun h2 => ?_) (fun h2 => ?_)
        · replace h2 : y = 32 := h2
          omega
        · replace h2 : ¬ (y = 32) := h2
          refine g_aload_n lk_185_21 rfl ?_
          refine g_aload_n lk_185_22 rfl ?_
          refine m_getfield (u := []) (M := N) lk_185_23 rfl (lay.on (by decide) rfl) (v := (a : Int)) f26 ?_
          refine g_virtual (p := 116) (Qc := _) lk_185_26 rfl (Nat.le_of_ble_eq_true rfl) rfl rfl (lay.on (by decide) rfl) (Nat.le_of_ble_eq_true rfl) (Nat.le_of_ble_eq_true rfl) (Nat.zero_le _) (Nat.zero_le _) (b1) ?_
          rintro _ N3 ⟨rfl, hN3⟩
          rw [hN3]
          show Wp _ 185 29 [(2, ((116 : Nat) : Int)), (9, 0)] [(0, y)] N _ _ _
          refine g_bipush lk_185_29 ?_
          refine g_icmp (t := 47) lk_185_31 rfl (by first | (unfold pm_inI; omega) | exact pm_and_in _ _ | exact pm_shr_in _ _ | exact pm_or_in _ _ | exact pm_xor_in _ _ | exact pm_shl_in _ _ | exact pm_cmp_in _ _ | exact pm_b8_in _ | (unfold pm_inI; split <;> omega)) (by first | (unfold pm_inI; omega) | exact pm_and_in _ _ | exact pm_shr_in _ _ | exact pm_or_in _ _ | exact pm_xor_in _ _ | exact pm_shl_in _ _ | exact pm_cmp_in _ _ | exact pm_b8_in _ | (unfold pm_inI; split <;> omega)) (fun h4 => ?_) (fun h4 => ?_)
          · replace h4 : ¬ y = 10 := h4
            exact kk
          · replace h4 : ¬ (¬ y = 10) := h4
            omega
  have hw' : pm_ct M 116 31 = ((0 : Nat) : Int) := hw
  have ig := c_Mo_isGood (d := d) (mc := 0) (ms := 0) lay0 hw' (by omega)
  rw [if_pos rfl] at ig
  show Wp (d + 1) 185 0 [(2, ((116 : Nat) : Int)), (9, 0)] [] M mc ms Q
  refine g_aload_n lk_185_0 rfl ?_
  refine g_virtual (p := 116) (Qc := _) lk_185_1 rfl (Nat.le_of_ble_eq_true rfl) rfl rfl (lay0.on (by decide) rfl) (Nat.le_of_ble_eq_true rfl) (Nat.le_of_ble_eq_true rfl) (Nat.zero_le _) (Nat.zero_le _) (ig) ?_
  rintro _ N1 ⟨rfl, hN1⟩
  rw [hN1]
  show Wp _ 185 4 [(2, ((116 : Nat) : Int)), (9, 0)] [(0, 1)] M _ _ _
  refine g_if (t := 8) lk_185_4 rfl (by first | (unfold pm_inI; omega) | exact pm_and_in _ _ | exact pm_shr_in _ _ | exact pm_or_in _ _ | exact pm_xor_in _ _ | exact pm_shl_in _ _ | exact pm_cmp_in _ _ | exact pm_b8_in _ | (unfold pm_inI; split <;> omega)) (fun _ => ?_) (fun h => absurd (show ¬ (1 : Int) = (0 : Int) by omega) h)
  exact skip 500 p M pn (by omega) ha lay0 (MF.refl _ _ _) hp
