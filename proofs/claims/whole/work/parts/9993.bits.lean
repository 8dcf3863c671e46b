/-! ===== small steps of reading ===== -/
def ResX {α : Type} (ρ : Option pm_V) (N : pm_M) (P : α → Prop) (r : Sum (Nat × Nat) α) : Prop := match r with
  | .inl e => ρ = some (0, 0) ∧ FtX N e
  | .inr x => ρ = some (0, 1) ∧ P x
/-- the reader's fault and its place stand -/
def Sv (M N : pm_M) : Prop := pm_ct N 2 6 = pm_ct M 2 6 ∧ pm_ct N 2 7 = pm_ct M 2 7
theorem Sv.refl (M : pm_M) : Sv M M := ⟨rfl, rfl⟩
theorem Sv.trans {M N K : pm_M} (h : Sv M N) (k : Sv N K) : Sv M K := ⟨k.1.trans h.1, k.2.trans h.2⟩
theorem RdF.sv {M N : pm_M} (h : RdF M N) : Sv M N := ⟨h.2 6 (by decide), h.2 7 (by decide)⟩
theorem Fr.sv {S : List Nat} {M N : pm_M} (h : Fr S M N) (h2 : 2 ∉ S) : Sv M N := by
  unfold Sv
  rw [h.ct h2]
  exact ⟨rfl, rfl⟩
def pStop (ch : Nat → Nat) (n : Nat) (t : Tok) : Sum (Nat × Nat) Tok := if t.1 = 3 then .inr (lxt ch n t.2.2) else .inl (flt 2 t)
theorem TcX.re {M N : pm_M} {n : Nat} {ch : Nat → Nat} (h : TcX M n ch) (k : ReF M N) : TcX N n ch := by
  unfold TcX at h ⊢
  rw [k.2 4 (by decide), k.1.ct (a := 3) (by decide)]; exact h
theorem c_Reader_readStop {d mc ms : Nat} {M : pm_M} (lay : Lay M) {n : Nat} {ch : Nat → Nat} (hM : TcX M n ch) {t : Tok} (hT : TkX M ch t) (hK : TkOK ch n t) :
    pm_E (d + 2) 67 [(2, ((2 : Nat) : Int))] M mc ms (fun ρ M' => Lay M' ∧ ReF M M' ∧ ResX ρ M' (fun t' => TkX M' ch t' ∧ Sv M M') (pStop ch n t)) := by
  have rf := c_Reader_refuse (d := d + 1) (mc := 0) (ms := 0) lay hT hK.1 (w := 2)
  have ad := c_Reader_advance (d := d) (mc := 0) (ms := 0) lay hM hT.2.2.2.1 hK.2.2.1
  have f10 := hT.1
  have t4 := hK.1
  unfold pStop
  show Wp (d + 2) 67 0 [(2, ((2 : Nat) : Int))] [] M mc ms _
  by_cases e : t.1 = 3
  · rw [if_pos e]
    have f10' : pm_ct M 2 10 = 3 := by rw [f10, e]; rfl
    refine g_aload_n lk_67_0 rfl ?_
    refine m_getfield (u := []) (M := M) lk_67_1 rfl (lay.on (by decide) rfl) (v := 3) f10' ?_
    refine g_iconst lk_67_4 ?_
    refine g_icmp (t := 14) lk_67_5 rfl (by first | (unfold pm_inI; omega) | exact pm_and_in _ _ | exact pm_shr_in _ _ | exact pm_or_in _ _ | exact pm_xor_in _ _ | exact pm_shl_in _ _ | exact pm_cmp_in _ _ | exact pm_b8_in _ | (unfold pm_inI; split <;> omega)) (by first | (unfold pm_inI; omega) | exact pm_and_in _ _ | exact pm_shr_in _ _ | exact pm_or_in _ _ | exact pm_xor_in _ _ | exact pm_shl_in _ _ | exact pm_cmp_in _ _ | exact pm_b8_in _ | (unfold pm_inI; split <;> omega)) (fun _ => ?_) (fun h => absurd (show (3 : Int) = (3 : Int) by omega) h)
    refine g_aload_n lk_67_14 rfl ?_
    refine g_virtual (p := 2) (Qc := _) lk_67_15 rfl (Nat.le_of_ble_eq_true rfl) rfl rfl (lay.on (by decide) rfl) (Nat.le_of_ble_eq_true rfl) (Nat.le_of_ble_eq_true rfl) (Nat.zero_le _) (Nat.zero_le _) (ad) ?_
    rintro _ K1 ⟨rfl, lay1, rd1, tk1⟩
    show Wp _ 67 18 [(2, ((2 : Nat) : Int))] [] K1 _ _ _
    refine g_iconst lk_67_18 ?_
    refine g_ireturn lk_67_19 (fun _ => by omega) ?_
    exact ⟨lay1, rd1.re, rfl, tk1, rd1.sv⟩
  · rw [if_neg e]
    obtain ⟨K, hk⟩ : ∃ K, K = t.1 := ⟨_, rfl⟩
    rw [← hk] at f10 t4 e
    refine g_aload_n lk_67_0 rfl ?_
    refine m_getfield (u := []) (M := M) lk_67_1 rfl (lay.on (by decide) rfl) (v := (K : Int)) f10 ?_
    refine g_iconst lk_67_4 ?_
    refine g_icmp (t := 14) lk_67_5 rfl (by first | (unfold pm_inI; omega) | exact pm_and_in _ _ | exact pm_shr_in _ _ | exact pm_or_in _ _ | exact pm_xor_in _ _ | exact pm_shl_in _ _ | exact pm_cmp_in _ _ | exact pm_b8_in _ | (unfold pm_inI; split <;> omega)) (by first | (unfold pm_inI; omega) | exact pm_and_in _ _ | exact pm_shr_in _ _ | exact pm_or_in _ _ | exact pm_xor_in _ _ | exact pm_shl_in _ _ | exact pm_cmp_in _ _ | exact pm_b8_in _ | (unfold pm_inI; split <;> omega)) (fun h1 => ?_) (fun h1 => ?_)
    · replace h1 : (K : Int) = 3 := h1
      omega
    · replace h1 : ¬ ((K : Int) = 3) := h1
      refine g_aload_n lk_67_8 rfl ?_
      refine g_iconst lk_67_9 ?_
      refine g_virtual (p := 2) (Qc := _) lk_67_10 rfl (Nat.le_of_ble_eq_true rfl) rfl rfl (lay.on (by decide) rfl) (Nat.le_of_ble_eq_true rfl) (Nat.le_of_ble_eq_true rfl) (Nat.zero_le _) (Nat.zero_le _) (rf) ?_
      rintro _ K1 ⟨rfl, lay1, re1, ft1⟩
      show Wp _ 67 13 [(2, ((2 : Nat) : Int))] [(0, 0)] K1 _ _ _
      refine g_ireturn lk_67_13 (fun _ => by omega) ?_
      exact ⟨lay1, re1, rfl, ft1⟩
theorem sgn_n {c : Nat} (h : c < 128) : sgn c = (c : Int) := by unfold sgn; rw [if_pos h]
theorem run_ch {ch : Nat → Nat} {n : Nat} {t : Tok} (hK : TkOK ch n t) (h2 : t.1 = 2) {i : Nat} (h3 : t.2.1 ≤ i) (h4 : i < t.2.2) : (48 ≤ ch i ∧ ch i ≤ 57) ∨ ch i = 46 := by
  have := (hK.2.2.2.2.2 (Or.inr h2)).2 i h3 h4
  rw [h2] at this
  exact kdc_2.mp this
/-- a sign of the run at hand -/
theorem c_Reader_sign {d mc ms : Nat} {M : pm_M} (lay : Lay M) {n : Nat} {ch : Nat → Nat} (hM : TcX M n ch) {t : Tok} (hT : TkX M ch t) (hK : TkOK ch n t) (h2 : t.1 = 2) {i : Nat} (hi : t.2.1 + i < t.2.2) :
    pm_E d 69 [(2, ((2 : Nat) : Int)), (0, (i : Int))] M mc ms (fun ρ M' => ρ = some (0, (ch (t.2.1 + i) : Int)) ∧ M' = M) := by
  have n5 := hM.1
  obtain ⟨_, k2, k3, _⟩ := id hK
  have sa := c_Reader_signAt (d := d) (mc := mc) (ms := ms) lay hM hT.2.1 (by omega) (i := i) (by omega)
  have rc := run_ch hK h2 (i := t.2.1 + i) (by omega) hi
  rw [if_pos (by omega), sgn_n (by omega)] at sa
  exact sa
theorem c_Reader_isNumberFrom {d mc ms : Nat} {M : pm_M} (lay : Lay M) {n : Nat} {ch : Nat → Nat} (hM : TcX M n ch) {t : Tok} (hT : TkX M ch t) (hK : TkOK ch n t) {l : Nat} (hl : l ≤ 1) :
    pm_E (d + 1) 66 [(2, ((2 : Nat) : Int)), (0, (l : Int))] M mc ms (fun ρ M' => Lay M' ∧ ReF M M' ∧ ResX ρ M' (fun _ => M' = M) (pNum ch l t)) := by
  have rf2 := c_Reader_refuse (d := d) (mc := 0) (ms := 0) lay hT hK.1 (w := 2)
  have rf4 := c_Reader_refuse (d := d) (mc := 0) (ms := 0) lay hT hK.1 (w := 4)
  obtain ⟨t4, k2, k3, k4, k5, k6⟩ := id hK
  have f10 := hT.1
  have f12 := hT.2.2.1
  have n5 := hM.1
  unfold pNum
  show Wp (d + 1) 66 0 [(2, ((2 : Nat) : Int)), (0, (l : Int))] [] M mc ms _
  by_cases e : t.1 = 2
  · rw [if_pos e]
    have lt := k5 (by omega)
    have six := (k6 (Or.inr e)).1
    have f10' : pm_ct M 2 10 = 2 := by rw [f10, e]; rfl
    have sg := c_Reader_sign (d := d) (mc := 0) (ms := 0) lay hM hT hK e (i := 0) (by omega)
    have sg' : pm_E d 69 [(2, ((2 : Nat) : Int)), (0, 0)] M 0 0 (fun ρ M' => ρ = some (0, (ch t.2.1 : Int)) ∧ M' = M) := sg
    have rc := run_ch hK e (i := t.2.1) (by omega) lt
    obtain ⟨s, hs⟩ : ∃ s, s = t.2.2 - t.2.1 := ⟨_, rfl⟩
    rw [← hs] at f12
    obtain ⟨c, hc⟩ : ∃ c, c = ch t.2.1 := ⟨_, rfl⟩
    rw [← hc] at sg' rc ⊢
    by_cases q : t.2.2 = t.2.1 + 1 ∧ 48 + l ≤ c
    · rw [if_pos q]
      refine g_aload_n lk_66_0 rfl ?_
      refine m_getfield (u := []) (M := M) lk_66_1 rfl (lay.on (by decide) rfl) (v := 2) f10' ?_
      refine g_iconst lk_66_4 ?_
      refine g_icmp (t := 14) lk_66_5 rfl (by first | (unfold pm_inI; omega) | exact pm_and_in _ _ | exact pm_shr_in _ _ | exact pm_or_in _ _ | exact pm_xor_in _ _ | exact pm_shl_in _ _ | exact pm_cmp_in _ _ | exact pm_b8_in _ | (unfold pm_inI; split <;> omega)) (by first | (unfold pm_inI; omega) | exact pm_and_in _ _ | exact pm_shr_in _ _ | exact pm_or_in _ _ | exact pm_xor_in _ _ | exact pm_shl_in _ _ | exact pm_cmp_in _ _ | exact pm_b8_in _ | (unfold pm_inI; split <;> omega)) (fun _ => ?_) (fun h => absurd (show (2 : Int) = (2 : Int) by omega) h)
      refine g_aload_n lk_66_14 rfl ?_
      refine m_getfield (u := []) (M := M) lk_66_15 rfl (lay.on (by decide) rfl) (v := (s : Int)) f12 ?_
      refine g_iconst lk_66_18 ?_
      refine g_icmp (t := 34) lk_66_19 rfl (by first | (unfold pm_inI; omega) | exact pm_and_in _ _ | exact pm_shr_in _ _ | exact pm_or_in _ _ | exact pm_xor_in _ _ | exact pm_shl_in _ _ | exact pm_cmp_in _ _ | exact pm_b8_in _ | (unfold pm_inI; split <;> omega)) (by first | (unfold pm_inI; omega) | exact pm_and_in _ _ | exact pm_shr_in _ _ | exact pm_or_in _ _ | exact pm_xor_in _ _ | exact pm_shl_in _ _ | exact pm_cmp_in _ _ | exact pm_b8_in _ | (unfold pm_inI; split <;> omega)) (fun h1 => ?_) (fun h1 => ?_)
      · replace h1 : ¬ (s : Int) = 1 := h1
        omega
      · replace h1 : ¬ (¬ (s : Int) = 1) := h1
        refine g_aload_n lk_66_22 rfl ?_
        refine g_iconst lk_66_23 ?_
        refine g_virtual (p := 2) (Qc := _) lk_66_24 rfl (Nat.le_of_ble_eq_true rfl) rfl rfl (lay.on (by decide) rfl) (Nat.le_of_ble_eq_true rfl) (Nat.le_of_ble_eq_true rfl) (Nat.zero_le _) (Nat.zero_le _) (sg') ?_
        rintro _ N2 ⟨rfl, hN2⟩
        rw [hN2]
        show Wp _ 66 27 [(2, ((2 : Nat) : Int)), (0, (l : Int))] [(0, (c : Int))] M _ _ _
        refine g_bipush lk_66_27 ?_
        refine g_isub lk_66_29 ?_
        refine g_iload_n lk_66_30 rfl ?_
        refine g_icmp (t := 42) lk_66_31 rfl (by first | (unfold pm_inI; omega) | exact pm_and_in _ _ | exact pm_shr_in _ _ | exact pm_or_in _ _ | exact pm_xor_in _ _ | exact pm_shl_in _ _ | exact pm_cmp_in _ _ | exact pm_b8_in _ | (unfold pm_inI; split <;> omega)) (by first | (unfold pm_inI; omega) | exact pm_and_in _ _ | exact pm_shr_in _ _ | exact pm_or_in _ _ | exact pm_xor_in _ _ | exact pm_shl_in _ _ | exact pm_cmp_in _ _ | exact pm_b8_in _ | (unfold pm_inI; split <;> omega)) (fun h3 => ?_) (fun h3 => ?_)
        · replace h3 : (l : Int) ≤ ((c : Int) - 48) := h3
          refine g_iconst lk_66_42 ?_
          refine g_goto (t := 47) lk_66_43 rfl ?_
          refine g_ireturn lk_66_47 (fun _ => by omega) ?_
          exact ⟨lay, ReF.refl _, rfl, rfl⟩
        · replace h3 : ¬ ((l : Int) ≤ ((c : Int) - 48)) := h3
          omega
    · rw [if_neg q]
      refine g_aload_n lk_66_0 rfl ?_
      refine m_getfield (u := []) (M := M) lk_66_1 rfl (lay.on (by decide) rfl) (v := 2) f10' ?_
      refine g_iconst lk_66_4 ?_
      refine g_icmp (t := 14) lk_66_5 rfl (by first | (unfold pm_inI; omega) | exact pm_and_in _ _ | exact pm_shr_in _ _ | exact pm_or_in _ _ | exact pm_xor_in _ _ | exact pm_shl_in _ _ | exact pm_cmp_in _ _ | exact pm_b8_in _ | (unfold pm_inI; split <;> omega)) (by first | (unfold pm_inI; omega) | exact pm_and_in _ _ | exact pm_shr_in _ _ | exact pm_or_in _ _ | exact pm_xor_in _ _ | exact pm_shl_in _ _ | exact pm_cmp_in _ _ | exact pm_b8_in _ | (unfold pm_inI; split <;> omega)) (fun _ => ?_) (fun h => absurd (show (2 : Int) = (2 : Int) by omega) h)
      refine g_aload_n lk_66_14 rfl ?_
      refine m_getfield (u := []) (M := M) lk_66_15 rfl (lay.on (by decide) rfl) (v := (s : Int)) f12 ?_
      refine g_iconst lk_66_18 ?_
      refine g_icmp (t := 34) lk_66_19 rfl (by first | (unfold pm_inI; omega) | exact pm_and_in _ _ | exact pm_shr_in _ _ | exact pm_or_in _ _ | exact pm_xor_in _ _ | exact pm_shl_in _ _ | exact pm_cmp_in _ _ | exact pm_b8_in _ | (unfold pm_inI; split <;> omega)) (by first | (unfold pm_inI; omega) | exact pm_and_in _ _ | exact pm_shr_in _ _ | exact pm_or_in _ _ | exact pm_xor_in _ _ | exact pm_shl_in _ _ | exact pm_cmp_in _ _ | exact pm_b8_in _ | (unfold pm_inI; split <;> omega)) (fun h1 => ?_) (fun h1 => ?_)
      · replace h1 : ¬ (s : Int) = 1 := h1
        refine g_aload_n lk_66_34 rfl ?_
        refine g_iconst lk_66_35 ?_
        refine g_virtual (p := 2) (Qc := _) lk_66_36 rfl (Nat.le_of_ble_eq_true rfl) rfl rfl (lay.on (by decide) rfl) (Nat.le_of_ble_eq_true rfl) (Nat.le_of_ble_eq_true rfl) (Nat.zero_le _) (Nat.zero_le _) (rf4) ?_
        rintro _ K1 ⟨rfl, lay1, re1, ft1⟩
        show Wp _ 66 39 [(2, ((2 : Nat) : Int)), (0, (l : Int))] [(0, 0)] K1 _ _ _
        refine g_if (t := 46) lk_66_39 rfl (by first | (unfold pm_inI; omega) | exact pm_and_in _ _ | exact pm_shr_in _ _ | exact pm_or_in _ _ | exact pm_xor_in _ _ | exact pm_shl_in _ _ | exact pm_cmp_in _ _ | exact pm_b8_in _ | (unfold pm_inI; split <;> omega)) (fun _ => ?_) (fun h => absurd (show (0 : Int) = (0 : Int) by omega) h)
        refine g_iconst lk_66_46 ?_
        refine g_ireturn lk_66_47 (fun _ => by omega) ?_
        exact ⟨lay1, re1, rfl, ft1⟩
      · replace h1 : ¬ (¬ (s : Int) = 1) := h1
        refine g_aload_n lk_66_22 rfl ?_
        refine g_iconst lk_66_23 ?_
        refine g_virtual (p := 2) (Qc := _) lk_66_24 rfl (Nat.le_of_ble_eq_true rfl) rfl rfl (lay.on (by decide) rfl) (Nat.le_of_ble_eq_true rfl) (Nat.le_of_ble_eq_true rfl) (Nat.zero_le _) (Nat.zero_le _) (sg') ?_
        rintro _ N2 ⟨rfl, hN2⟩
        rw [hN2]
        show Wp _ 66 27 [(2, ((2 : Nat) : Int)), (0, (l : Int))] [(0, (c : Int))] M _ _ _
        refine g_bipush lk_66_27 ?_
        refine g_isub lk_66_29 ?_
        refine g_iload_n lk_66_30 rfl ?_
        refine g_icmp (t := 42) lk_66_31 rfl (by first | (unfold pm_inI; omega) | exact pm_and_in _ _ | exact pm_shr_in _ _ | exact pm_or_in _ _ | exact pm_xor_in _ _ | exact pm_shl_in _ _ | exact pm_cmp_in _ _ | exact pm_b8_in _ | (unfold pm_inI; split <;> omega)) (by first | (unfold pm_inI; omega) | exact pm_and_in _ _ | exact pm_shr_in _ _ | exact pm_or_in _ _ | exact pm_xor_in _ _ | exact pm_shl_in _ _ | exact pm_cmp_in _ _ | exact pm_b8_in _ | (unfold pm_inI; split <;> omega)) (fun h3 => ?_) (fun h3 => ?_)
        · replace h3 : (l : Int) ≤ ((c : Int) - 48) := h3
          refine g_iconst lk_66_42 ?_
          refine g_goto (t := 47) lk_66_43 rfl ?_
          refine g_ireturn lk_66_47 (fun _ => by omega) ?_
          omega
        · replace h3 : ¬ ((l : Int) ≤ ((c : Int) - 48)) := h3
          refine g_aload_n lk_66_34 rfl ?_
          refine g_iconst lk_66_35 ?_
          refine g_virtual (p := 2) (Qc := _) lk_66_36 rfl (Nat.le_of_ble_eq_true rfl) rfl rfl (lay.on (by decide) rfl) (Nat.le_of_ble_eq_true rfl) (Nat.le_of_ble_eq_true rfl) (Nat.zero_le _) (Nat.zero_le _) (rf4) ?_
          rintro _ K1 ⟨rfl, lay1, re1, ft1⟩
          show Wp _ 66 39 [(2, ((2 : Nat) : Int)), (0, (l : Int))] [(0, 0)] K1 _ _ _
          refine g_if (t := 46) lk_66_39 rfl (by first | (unfold pm_inI; omega) | exact pm_and_in _ _ | exact pm_shr_in _ _ | exact pm_or_in _ _ | exact pm_xor_in _ _ | exact pm_shl_in _ _ | exact pm_cmp_in _ _ | exact pm_b8_in _ | (unfold pm_inI; split <;> omega)) (fun _ => ?_) (fun h => absurd (show (0 : Int) = (0 : Int) by omega) h)
          refine g_iconst lk_66_46 ?_
          refine g_ireturn lk_66_47 (fun _ => by omega) ?_
          exact ⟨lay1, re1, rfl, ft1⟩
  · rw [if_neg e]
    obtain ⟨K, hk⟩ : ∃ K, K = t.1 := ⟨_, rfl⟩
    rw [← hk] at f10 t4 e
    refine g_aload_n lk_66_0 rfl ?_
    refine m_getfield (u := []) (M := M) lk_66_1 rfl (lay.on (by decide) rfl) (v := (K : Int)) f10 ?_
    refine g_iconst lk_66_4 ?_
    refine g_icmp (t := 14) lk_66_5 rfl (by first | (unfold pm_inI; omega) | exact pm_and_in _ _ | exact pm_shr_in _ _ | exact pm_or_in _ _ | exact pm_xor_in _ _ | exact pm_shl_in _ _ | exact pm_cmp_in _ _ | exact pm_b8_in _ | (unfold pm_inI; split <;> omega)) (by first | (unfold pm_inI; omega) | exact pm_and_in _ _ | exact pm_shr_in _ _ | exact pm_or_in _ _ | exact pm_xor_in _ _ | exact pm_shl_in _ _ | exact pm_cmp_in _ _ | exact pm_b8_in _ | (unfold pm_inI; split <;> omega)) (fun h1 => ?_) (fun h1 => ?_)
    · replace h1 : (K : Int) = 2 := h1
      omega
    · replace h1 : ¬ ((K : Int) = 2) := h1
      refine g_aload_n lk_66_8 rfl ?_
      refine g_iconst lk_66_9 ?_
      refine g_virtual (p := 2) (Qc := _) lk_66_10 rfl (Nat.le_of_ble_eq_true rfl) rfl rfl (lay.on (by decide) rfl) (Nat.le_of_ble_eq_true rfl) (Nat.le_of_ble_eq_true rfl) (Nat.zero_le _) (Nat.zero_le _) (rf2) ?_
      rintro _ K1 ⟨rfl, lay1, re1, ft1⟩
      show Wp _ 66 13 [(2, ((2 : Nat) : Int)), (0, (l : Int))] [(0, 0)] K1 _ _ _
      refine g_ireturn lk_66_13 (fun _ => by omega) ?_
      exact ⟨lay1, re1, rfl, ft1⟩
theorem shr_tab : ∀ s : Fin 64, ∀ v : Fin 6, (pm_shr ((s : Nat) : Int) ((v : Nat) : Int) = 0 ↔ (s : Nat) < 2 ^ (v : Nat)) ∧ 0 ≤ pm_shr ((s : Nat) : Int) ((v : Nat) : Int) ∧ pm_shr ((s : Nat) : Int) ((v : Nat) : Int) ≤ 64 ∧ ((s : Nat) < 2 ^ (v : Nat) → pm_or ((s : Nat) : Int) (pm_shl 1 ((v : Nat) : Int)) = (((s : Nat) + 2 ^ (v : Nat) : Nat) : Int)) := by decide +kernel
theorem sc_pos {ch : Nat → Nat} {many : Nat} (hm : many ≤ 6) {k i v : Nat} (h : sc ch many (k + 1) i 0 = some v) : 1 ≤ v := by
  replace h : (if 48 ≤ ch i ∧ ch i - 48 < many ∧ 0 < 2 ^ (ch i - 48) then sc ch many k (i + 1) (0 + 2 ^ (ch i - 48)) else none) = some v := h
  by_cases q : 48 ≤ ch i ∧ ch i - 48 < many ∧ 0 < 2 ^ (ch i - 48)
  · rw [if_pos q] at h
    have p2 : 2 ^ (ch i - 48) ≤ 2 ^ 5 := Nat.pow_le_pow_right (by omega) (by omega)
    have := sc_bd hm (by omega) h
    omega
  · rw [if_neg q] at h; cases h
set_option maxHeartbeats 4000000 in
theorem c_Reader_readSet {d mc ms : Nat} {M : pm_M} (lay : Lay M) {n : Nat} {ch : Nat → Nat} (hM : TcX M n ch) {t : Tok} (hT : TkX M ch t) (hK : TkOK ch n t) {many : Nat} (hm : many ≤ 6) :
    pm_E (d + 1) 65 [(2, ((2 : Nat) : Int)), (0, (many : Int))] M mc ms (fun ρ M' => Lay M' ∧ ReF M M' ∧ ((∃ e, pSet ch many t = .inl e ∧ ρ = some (0, 0) ∧ FtX M' e) ∨ ∃ s : Nat, pSet ch many t = .inr s ∧ 1 ≤ s ∧ s < 64 ∧ ρ = some (0, (s : Int)) ∧ M' = M)) := by
  obtain ⟨Q, hQ⟩ : ∃ Q : pm_Q, Q = (fun ρ M' => Lay M' ∧ ReF M M' ∧ ((∃ e, pSet ch many t = .inl e ∧ ρ = some (0, 0) ∧ FtX M' e) ∨ ∃ s : Nat, pSet ch many t = .inr s ∧ 1 ≤ s ∧ s < 64 ∧ ρ = some (0, (s : Int)) ∧ M' = M)) := ⟨_, rfl⟩
  rw [← hQ]
  have rf2 := c_Reader_refuse (d := d) (mc := 0) (ms := 0) lay hT hK.1 (w := 2)
  have rf4 := c_Reader_refuse (d := d) (mc := 0) (ms := 0) lay hT hK.1 (w := 4)
  obtain ⟨t4, k2, k3, k4, k5, k6⟩ := id hK
  have f10 := hT.1
  have f12 := hT.2.2.1
  have n5 := hM.1
  show Wp (d + 1) 65 0 [(2, ((2 : Nat) : Int)), (0, (many : Int)), (9, 0), (9, 0), (9, 0)] [] M mc ms Q
  by_cases e : t.1 = 2
  · have lt := k5 (by omega)
    have six := (k6 (Or.inr e)).1
    have f10' : pm_ct M 2 10 = 2 := by rw [f10, e]; rfl
    obtain ⟨z, hz⟩ : ∃ z, z = t.2.2 - t.2.1 := ⟨_, rfl⟩
    rw [← hz] at f12
    have ep : ∀ r, sc ch many z t.2.1 0 = r → pSet ch many t = (match r with | some s => .inr s | none => .inl (flt 4 t)) := fun r hr => by
      unfold pSet
      rw [if_pos e, ← hz, hr]
      cases r <;> rfl
    have loop : ∀ (k i s : Nat) (v4 : pm_V), i + k = z → s < 64 → sc ch many z t.2.1 0 = sc ch many k (t.2.1 + i) s → Wp (d + 1) 65 20 [(2, ((2 : Nat) : Int)), (0, (many : Int)), (0, (s : Int)), (0, (i : Int)), v4] [] M mc ms Q := by
      intro k
      induction k with
      | zero =>
        intro i s v4 hi hs hsc
        have e2 := ep (some s) hsc
        obtain ⟨z1, hz1⟩ : ∃ q, z = q + 1 := ⟨z - 1, by omega⟩
        have sp := sc_pos (ch := ch) (many := many) hm (k := z1) (i := t.2.1) (v := s) (by rw [← hz1]; exact hsc)
        have ei : i = z := by omega
        rw [ei]
        refine g_iload_n lk_65_20 rfl ?_
        refine g_aload_n lk_65_21 rfl ?_
        refine m_getfield (u := []) (M := M) lk_65_22 rfl (lay.on (by decide) rfl) (v := (z : Int)) f12 ?_
        refine g_icmp (t := 77) lk_65_25 rfl (by first | (unfold pm_inI; omega) | exact pm_and_in _ _ | exact pm_shr_in _ _ | exact pm_or_in _ _ | exact pm_xor_in _ _ | exact pm_shl_in _ _ | exact pm_cmp_in _ _ | exact pm_b8_in _ | (unfold pm_inI; split <;> omega)) (by first | (unfold pm_inI; omega) | exact pm_and_in _ _ | exact pm_shr_in _ _ | exact pm_or_in _ _ | exact pm_xor_in _ _ | exact pm_shl_in _ _ | exact pm_cmp_in _ _ | exact pm_b8_in _ | (unfold pm_inI; split <;> omega)) (fun h1 => ?_) (fun h1 => ?_)
        · replace h1 : (z : Int) ≤ (z : Int) := h1
          refine g_iload_n lk_65_77 rfl ?_
          refine g_ireturn lk_65_78 (fun h => absurd h (by decide)) ?_
          rw [hQ]
          exact ⟨lay, ReF.refl _, Or.inr ⟨s, e2, sp, hs, rfl, rfl⟩⟩
        · replace h1 : ¬ ((z : Int) ≤ (z : Int)) := h1
          omega
      | succ k ih =>
        intro i s v4 hi hs hsc
        replace hsc : sc ch many z t.2.1 0 = if 48 ≤ ch (t.2.1 + i) ∧ ch (t.2.1 + i) - 48 < many ∧ s < 2 ^ (ch (t.2.1 + i) - 48) then sc ch many k (t.2.1 + i + 1) (s + 2 ^ (ch (t.2.1 + i) - 48)) else none := hsc
        have sg := c_Reader_sign (d := d) (mc := 0) (ms := 0) lay hM hT hK e (i := i) (by omega)
        have rc := run_ch hK e (i := t.2.1 + i) (by omega) (by omega)
        obtain ⟨c, hc⟩ : ∃ c, c = ch (t.2.1 + i) := ⟨_, rfl⟩
        rw [← hc] at sg rc hsc
        have bad : sc ch many z t.2.1 0 = none → ∀ K1, Lay K1 → ReF M K1 → FtX K1 (flt 4 t) → Q (some (0, 0)) K1 := fun q K1 l r f => by
          rw [hQ]
          exact ⟨l, r, Or.inl ⟨flt 4 t, ep none q, rfl, f⟩⟩
        by_cases g1 : 48 ≤ c ∧ c - 48 < many
        · obtain ⟨v, hv⟩ : ∃ v, v = c - 48 := ⟨_, rfl⟩
          rw [← hv] at hsc
          have ev : (c : Int) - 48 = (v : Int) := by omega
          obtain ⟨s1, s2, s3, s4⟩ := shr_tab ⟨s, hs⟩ ⟨v, by omega⟩
          replace s1 : pm_shr (s : Int) (v : Int) = 0 ↔ s < 2 ^ v := s1
          replace s2 : 0 ≤ pm_shr (s : Int) (v : Int) := s2
          replace s3 : pm_shr (s : Int) (v : Int) ≤ 64 := s3
          replace s4 : s < 2 ^ v → pm_or (s : Int) (pm_shl 1 (v : Int)) = ((s + 2 ^ v : Nat) : Int) := s4
          have p2 : 2 ^ v ≤ 2 ^ 5 := Nat.pow_le_pow_right (by omega) (by omega)
          obtain ⟨y, hy⟩ : ∃ y, y = pm_shr (s : Int) (v : Int) := ⟨_, rfl⟩
          rw [← hy] at s1 s2 s3
          by_cases g2 : s < 2 ^ v
          · rw [if_pos ⟨by omega, by omega, g2⟩] at hsc
            have y0 := s1.mpr g2
            have nx := ih (i + 1) (s + 2 ^ v) (0, (v : Int)) (by omega) (by omega) hsc
            rw [y0] at hy
            have s4' := s4 g2
            clear ih
            refine g_iload_n lk_65_20 rfl ?_
            refine g_aload_n lk_65_21 rfl ?_
            refine m_getfield (u := []) (M := M) lk_65_22 rfl (lay.on (by decide) rfl) (v := (z : Int)) f12 ?_
            refine g_icmp (t := 77) lk_65_25 rfl (by first | (unfold pm_inI; omega) | exact pm_and_in _ _ | exact pm_shr_in _ _ | exact pm_or_in _ _ | exact pm_xor_in _ _ | exact pm_shl_in _ _ | exact pm_cmp_in _ _ | exact pm_b8_in _ | (unfold pm_inI; split <;> omega)) (by first | (unfold pm_inI; omega) | exact pm_and_in _ _ | exact pm_shr_in _ _ | exact pm_or_in _ _ | exact pm_xor_in _ _ | exact pm_shl_in _ _ | exact pm_cmp_in _ _ | exact pm_b8_in _ | (unfold pm_inI; split <;> omega)) (fun h1 => ?_) (fun h1 => ?_)
            · replace h1 : (z : Int) ≤ (i : Int) := h1
              omega
            · replace h1 : ¬ ((z : Int) ≤ (i : Int)) := h1
              refine g_aload_n lk_65_28 rfl ?_
              refine g_iload_n lk_65_29 rfl ?_
              refine g_virtual (p := 2) (Qc := _) lk_65_30 rfl (Nat.le_of_ble_eq_true rfl) rfl rfl (lay.on (by decide) rfl) (Nat.le_of_ble_eq_true rfl) (Nat.le_of_ble_eq_true rfl) (Nat.zero_le _) (Nat.zero_le _) (sg) ?_
              rintro _ N2 ⟨rfl, hN2⟩
              rw [hN2]
              show Wp _ 65 33 [(2, ((2 : Nat) : Int)), (0, (many : Int)), (0, (s : Int)), (0, (i : Int)), v4] [(0, (c : Int))] M _ _ _
              refine g_bipush lk_65_33 ?_
              refine g_isub lk_65_35 ?_
              refine g_top (z := ((c : Int) - 48)) (z' := (v : Int)) (ev) ?_
              refine g_istore (ls' := [(2, ((2 : Nat) : Int)), (0, (many : Int)), (0, (s : Int)), (0, (i : Int)), (0, (v : Int))]) lk_65_36 rfl rfl ?_
              refine g_iload lk_65_38 rfl ?_
              refine g_if (t := 56) lk_65_40 rfl (by first | (unfold pm_inI; omega) | exact pm_and_in _ _ | exact pm_shr_in _ _ | exact pm_or_in _ _ | exact pm_xor_in _ _ | exact pm_shl_in _ _ | exact pm_cmp_in _ _ | exact pm_b8_in _ | (unfold pm_inI; split <;> omega)) (fun h3 => ?_) (fun h3 => ?_)
              · replace h3 : (v : Int) < 0 := h3
                omega
              · replace h3 : ¬ ((v : Int) < 0) := h3
                refine g_iload lk_65_43 rfl ?_
                refine g_iload_n lk_65_45 rfl ?_
                refine g_icmp (t := 56) lk_65_46 rfl (by first | (unfold pm_inI; omega) | exact pm_and_in _ _ | exact pm_shr_in _ _ | exact pm_or_in _ _ | exact pm_xor_in _ _ | exact pm_shl_in _ _ | exact pm_cmp_in _ _ | exact pm_b8_in _ | (unfold pm_inI; split <;> omega)) (by first | (unfold pm_inI; omega) | exact pm_and_in _ _ | exact pm_shr_in _ _ | exact pm_or_in _ _ | exact pm_xor_in _ _ | exact pm_shl_in _ _ | exact pm_cmp_in _ _ | exact pm_b8_in _ | (unfold pm_inI; split <;> omega)) (fun h4 => ?_) (fun h4 => ?_)
                · replace h4 : (many : Int) ≤ (v : Int) := h4
                  omega
                · replace h4 : ¬ ((many : Int) ≤ (v : Int)) := h4
                  refine g_iload_n lk_65_49 rfl ?_
                  refine g_iload lk_65_50 rfl ?_
                  refine g_ishr lk_65_52 ?_
                  refine g_top (z := (pm_shr (s : Int) (v : Int))) (z' := 0) (hy.symm) ?_
                  refine g_if (t := 64) lk_65_53 rfl (by first | (unfold pm_inI; omega) | exact pm_and_in _ _ | exact pm_shr_in _ _ | exact pm_or_in _ _ | exact pm_xor_in _ _ | exact pm_shl_in _ _ | exact pm_cmp_in _ _ | exact pm_b8_in _ | (unfold pm_inI; split <;> omega)) (fun _ => ?_) (fun h => absurd (show (0 : Int) = (0 : Int) by omega) h)
                  refine g_iload_n lk_65_64 rfl ?_
                  refine g_iconst lk_65_65 ?_
                  refine g_iload lk_65_66 rfl ?_
                  refine g_ishl lk_65_68 ?_
                  refine g_ior lk_65_69 ?_
                  refine g_top (z := (pm_or (s : Int) (pm_shl 1 (v : Int)))) (z' := ((s + 2 ^ v : Nat) : Int)) (s4') ?_
                  refine g_istore_n (ls' := [(2, ((2 : Nat) : Int)), (0, (many : Int)), (0, ((s + 2 ^ v : Nat) : Int)), (0, (i : Int)), (0, (v : Int))]) lk_65_70 rfl rfl ?_
                  refine g_iinc (ls' := [(2, ((2 : Nat) : Int)), (0, (many : Int)), (0, ((s + 2 ^ v : Nat) : Int)), (0, ((i : Int) + 1)), (0, (v : Int))]) lk_65_71 rfl rfl rfl ?_
                  refine g_goto (t := 20) lk_65_74 rfl ?_
                  exact nx
          · rw [if_neg (fun q => g2 q.2.2)] at hsc
            have y0 : ¬ y = 0 := fun q => g2 (s1.mp q)
            clear ih
            refine g_iload_n lk_65_20 rfl ?_
            refine g_aload_n lk_65_21 rfl ?_
            refine m_getfield (u := []) (M := M) lk_65_22 rfl (lay.on (by decide) rfl) (v := (z : Int)) f12 ?_
            refine g_icmp (t := 77) lk_65_25 rfl (by first | (unfold pm_inI; omega) | exact pm_and_in _ _ | exact pm_shr_in _ _ | exact pm_or_in _ _ | exact pm_xor_in _ _ | exact pm_shl_in _ _ | exact pm_cmp_in _ _ | exact pm_b8_in _ | (unfold pm_inI; split <;> omega)) (by first | (unfold pm_inI; omega) | exact pm_and_in _ _ | exact pm_shr_in _ _ | exact pm_or_in _ _ | exact pm_xor_in _ _ | exact pm_shl_in _ _ | exact pm_cmp_in _ _ | exact pm_b8_in _ | (unfold pm_inI; split <;> omega)) (fun h1 => ?_) (fun h1 => ?_)
            · replace h1 : (z : Int) ≤ (i : Int) := h1
              omega
            · replace h1 : ¬ ((z : Int) ≤ (i : Int)) := h1
              refine g_aload_n lk_65_28 rfl ?_
              refine g_iload_n lk_65_29 rfl ?_
              refine g_virtual (p := 2) (Qc := _) lk_65_30 rfl (Nat.le_of_ble_eq_true rfl) rfl rfl (lay.on (by decide) rfl) (Nat.le_of_ble_eq_true rfl) (Nat.le_of_ble_eq_true rfl) (Nat.zero_le _) (Nat.zero_le _) (sg) ?_
              rintro _ N2 ⟨rfl, hN2⟩
              rw [hN2]
              show Wp _ 65 33 [(2, ((2 : Nat) : Int)), (0, (many : Int)), (0, (s : Int)), (0, (i : Int)), v4] [(0, (c : Int))] M _ _ _
              refine g_bipush lk_65_33 ?_
              refine g_isub lk_65_35 ?_
              refine g_top (z := ((c : Int) - 48)) (z' := (v : Int)) (ev) ?_
              refine g_istore (ls' := [(2, ((2 : Nat) : Int)), (0, (many : Int)), (0, (s : Int)), (0, (i : Int)), (0, (v : Int))]) lk_65_36 rfl rfl ?_
              refine g_iload lk_65_38 rfl ?_
              refine g_if (t := 56) lk_65_40 rfl (by first | (unfold pm_inI; omega) | exact pm_and_in _ _ | exact pm_shr_in _ _ | exact pm_or_in _ _ | exact pm_xor_in _ _ | exact pm_shl_in _ _ | exact pm_cmp_in _ _ | exact pm_b8_in _ | (unfold pm_inI; split <;> omega)) (fun h3 => ?_) (fun h3 => ?_)
              · replace h3 : (v : Int) < 0 := h3
                refine g_aload_n lk_65_56 rfl ?_
                refine g_iconst lk_65_57 ?_
                refine g_virtual (p := 2) (Qc := _) lk_65_58 rfl (Nat.le_of_ble_eq_true rfl) rfl rfl (lay.on (by decide) rfl) (Nat.le_of_ble_eq_true rfl) (Nat.le_of_ble_eq_true rfl) (Nat.zero_le _) (Nat.zero_le _) (rf4) ?_
                rintro _ K1 ⟨rfl, lay1, re1, ft1⟩
                show Wp _ 65 61 [(2, ((2 : Nat) : Int)), (0, (many : Int)), (0, (s : Int)), (0, (i : Int)), (0, (v : Int))] [(0, 0)] K1 _ _ _
                refine g_pop lk_65_61 rfl ?_
                refine g_iconst lk_65_62 ?_
                refine g_ireturn lk_65_63 (fun h => absurd h (by decide)) ?_
                first | exact bad hsc _ lay1 re1 ft1 | (exfalso; omega)
              · replace h3 : ¬ ((v : Int) < 0) := h3
                refine g_iload lk_65_43 rfl ?_
                refine g_iload_n lk_65_45 rfl ?_
                refine g_icmp (t := 56) lk_65_46 rfl (by first | (unfold pm_inI; omega) | exact pm_and_in _ _ | exact pm_shr_in _ _ | exact pm_or_in _ _ | exact pm_xor_in _ _ | exact pm_shl_in _ _ | exact pm_cmp_in _ _ | exact pm_b8_in _ | (unfold pm_inI; split <;> omega)) (by first | (unfold pm_inI; omega) | exact pm_and_in _ _ | exact pm_shr_in _ _ | exact pm_or_in _ _ | exact pm_xor_in _ _ | exact pm_shl_in _ _ | exact pm_cmp_in _ _ | exact pm_b8_in _ | (unfold pm_inI; split <;> omega)) (fun h4 => ?_) (fun h4 => ?_)
                · replace h4 : (many : Int) ≤ (v : Int) := h4
                  refine g_aload_n lk_65_56 rfl ?_
                  refine g_iconst lk_65_57 ?_
                  refine g_virtual (p := 2) (Qc := _) lk_65_58 rfl (Nat.le_of_ble_eq_true rfl) rfl rfl (lay.on (by decide) rfl) (Nat.le_of_ble_eq_true rfl) (Nat.le_of_ble_eq_true rfl) (Nat.zero_le _) (Nat.zero_le _) (rf4) ?_
                  rintro _ K1 ⟨rfl, lay1, re1, ft1⟩
                  show Wp _ 65 61 [(2, ((2 : Nat) : Int)), (0, (many : Int)), (0, (s : Int)), (0, (i : Int)), (0, (v : Int))] [(0, 0)] K1 _ _ _
                  refine g_pop lk_65_61 rfl ?_
                  refine g_iconst lk_65_62 ?_
                  refine g_ireturn lk_65_63 (fun h => absurd h (by decide)) ?_
                  first | exact bad hsc _ lay1 re1 ft1 | (exfalso; omega)
                · replace h4 : ¬ ((many : Int) ≤ (v : Int)) := h4
                  refine g_iload_n lk_65_49 rfl ?_
                  refine g_iload lk_65_50 rfl ?_
                  refine g_ishr lk_65_52 ?_
                  refine g_top (z := (pm_shr (s : Int) (v : Int))) (z' := y) (hy.symm) ?_
                  refine g_if (t := 64) lk_65_53 rfl (by first | (unfold pm_inI; omega) | exact pm_and_in _ _ | exact pm_shr_in _ _ | exact pm_or_in _ _ | exact pm_xor_in _ _ | exact pm_shl_in _ _ | exact pm_cmp_in _ _ | exact pm_b8_in _ | (unfold pm_inI; split <;> omega)) (fun h5 => ?_) (fun h5 => ?_)
                  · replace h5 : y = 0 := h5
                    omega
                  · replace h5 : ¬ (y = 0) := h5
                    refine g_aload_n lk_65_56 rfl ?_
                    refine g_iconst lk_65_57 ?_
                    refine g_virtual (p := 2) (Qc := _) lk_65_58 rfl (Nat.le_of_ble_eq_true rfl) rfl rfl (lay.on (by decide) rfl) (Nat.le_of_ble_eq_true rfl) (Nat.le_of_ble_eq_true rfl) (Nat.zero_le _) (Nat.zero_le _) (rf4) ?_
                    rintro _ K1 ⟨rfl, lay1, re1, ft1⟩
                    show Wp _ 65 61 [(2, ((2 : Nat) : Int)), (0, (many : Int)), (0, (s : Int)), (0, (i : Int)), (0, (v : Int))] [(0, 0)] K1 _ _ _
                    refine g_pop lk_65_61 rfl ?_
                    refine g_iconst lk_65_62 ?_
                    refine g_ireturn lk_65_63 (fun h => absurd h (by decide)) ?_
                    first | exact bad hsc _ lay1 re1 ft1 | (exfalso; omega)
        · rw [if_neg (fun q => g1 ⟨q.1, q.2.1⟩)] at hsc
          obtain ⟨w, hw⟩ : ∃ w : Int, w = (c : Int) - 48 := ⟨_, rfl⟩
          clear ih
          refine g_iload_n lk_65_20 rfl ?_
          refine g_aload_n lk_65_21 rfl ?_
          refine m_getfield (u := []) (M := M) lk_65_22 rfl (lay.on (by decide) rfl) (v := (z : Int)) f12 ?_
          refine g_icmp (t := 77) lk_65_25 rfl (by first | (unfold pm_inI; omega) | exact pm_and_in _ _ | exact pm_shr_in _ _ | exact pm_or_in _ _ | exact pm_xor_in _ _ | exact pm_shl_in _ _ | exact pm_cmp_in _ _ | exact pm_b8_in _ | (unfold pm_inI; split <;> omega)) (by first | (unfold pm_inI; omega) | exact pm_and_in _ _ | exact pm_shr_in _ _ | exact pm_or_in _ _ | exact pm_xor_in _ _ | exact pm_shl_in _ _ | exact pm_cmp_in _ _ | exact pm_b8_in _ | (unfold pm_inI; split <;> omega)) (fun h1 => ?_) (fun h1 => ?_)
          · replace h1 : (z : Int) ≤ (i : Int) := h1
            omega
          · replace h1 : ¬ ((z : Int) ≤ (i : Int)) := h1
            refine g_aload_n lk_65_28 rfl ?_
            refine g_iload_n lk_65_29 rfl ?_
            refine g_virtual (p := 2) (Qc := _) lk_65_30 rfl (Nat.le_of_ble_eq_true rfl) rfl rfl (lay.on (by decide) rfl) (Nat.le_of_ble_eq_true rfl) (Nat.le_of_ble_eq_true rfl) (Nat.zero_le _) (Nat.zero_le _) (sg) ?_
            rintro _ N2 ⟨rfl, hN2⟩
            rw [hN2]
            show Wp _ 65 33 [(2, ((2 : Nat) : Int)), (0, (many : Int)), (0, (s : Int)), (0, (i : Int)), v4] [(0, (c : Int))] M _ _ _
            refine g_bipush lk_65_33 ?_
            refine g_isub lk_65_35 ?_
            refine g_top (z := ((c : Int) - 48)) (z' := w) (hw.symm) ?_
            refine g_istore (ls' := [(2, ((2 : Nat) : Int)), (0, (many : Int)), (0, (s : Int)), (0, (i : Int)), (0, w)]) lk_65_36 rfl rfl ?_
            refine g_iload lk_65_38 rfl ?_
            refine g_if (t := 56) lk_65_40 rfl (by first | (unfold pm_inI; omega) | exact pm_and_in _ _ | exact pm_shr_in _ _ | exact pm_or_in _ _ | exact pm_xor_in _ _ | exact pm_shl_in _ _ | exact pm_cmp_in _ _ | exact pm_b8_in _ | (unfold pm_inI; split <;> omega)) (fun h3 => ?_) (fun h3 => ?_)
            · replace h3 : w < 0 := h3
              refine g_aload_n lk_65_56 rfl ?_
              refine g_iconst lk_65_57 ?_
              refine g_virtual (p := 2) (Qc := _) lk_65_58 rfl (Nat.le_of_ble_eq_true rfl) rfl rfl (lay.on (by decide) rfl) (Nat.le_of_ble_eq_true rfl) (Nat.le_of_ble_eq_true rfl) (Nat.zero_le _) (Nat.zero_le _) (rf4) ?_
              rintro _ K1 ⟨rfl, lay1, re1, ft1⟩
              show Wp _ 65 61 [(2, ((2 : Nat) : Int)), (0, (many : Int)), (0, (s : Int)), (0, (i : Int)), (0, w)] [(0, 0)] K1 _ _ _
              refine g_pop lk_65_61 rfl ?_
              refine g_iconst lk_65_62 ?_
              refine g_ireturn lk_65_63 (fun h => absurd h (by decide)) ?_
              exact bad hsc _ lay1 re1 ft1
            · replace h3 : ¬ (w < 0) := h3
              refine g_iload lk_65_43 rfl ?_
              refine g_iload_n lk_65_45 rfl ?_
              refine g_icmp (t := 56) lk_65_46 rfl (by first | (unfold pm_inI; omega) | exact pm_and_in _ _ | exact pm_shr_in _ _ | exact pm_or_in _ _ | exact pm_xor_in _ _ | exact pm_shl_in _ _ | exact pm_cmp_in _ _ | exact pm_b8_in _ | (unfold pm_inI; split <;> omega)) (by first | (unfold pm_inI; omega) | exact pm_and_in _ _ | exact pm_shr_in _ _ | exact pm_or_in _ _ | exact pm_xor_in _ _ | exact pm_shl_in _ _ | exact pm_cmp_in _ _ | exact pm_b8_in _ | (unfold pm_inI; split <;> omega)) (fun h4 => ?_) (fun h4 => ?_)
              · replace h4 : (many : Int) ≤ w := h4
                refine g_aload_n lk_65_56 rfl ?_
                refine g_iconst lk_65_57 ?_
                refine g_virtual (p := 2) (Qc := _) lk_65_58 rfl (Nat.le_of_ble_eq_true rfl) rfl rfl (lay.on (by decide) rfl) (Nat.le_of_ble_eq_true rfl) (Nat.le_of_ble_eq_true rfl) (Nat.zero_le _) (Nat.zero_le _) (rf4) ?_
                rintro _ K1 ⟨rfl, lay1, re1, ft1⟩
                show Wp _ 65 61 [(2, ((2 : Nat) : Int)), (0, (many : Int)), (0, (s : Int)), (0, (i : Int)), (0, w)] [(0, 0)] K1 _ _ _
                refine g_pop lk_65_61 rfl ?_
                refine g_iconst lk_65_62 ?_
                refine g_ireturn lk_65_63 (fun h => absurd h (by decide)) ?_
                exact bad hsc _ lay1 re1 ft1
              · replace h4 : ¬ ((many : Int) ≤ w) := h4
                omega
    refine g_aload_n lk_65_0 rfl ?_
    refine m_getfield (u := []) (M := M) lk_65_1 rfl (lay.on (by decide) rfl) (v := 2) f10' ?_
    refine g_iconst lk_65_4 ?_
    refine g_icmp (t := 16) lk_65_5 rfl (by first | (unfold pm_inI; omega) | exact pm_and_in _ _ | exact pm_shr_in _ _ | exact pm_or_in _ _ | exact pm_xor_in _ _ | exact pm_shl_in _ _ | exact pm_cmp_in _ _ | exact pm_b8_in _ | (unfold pm_inI; split <;> omega)) (by first | (unfold pm_inI; omega) | exact pm_and_in _ _ | exact pm_shr_in _ _ | exact pm_or_in _ _ | exact pm_xor_in _ _ | exact pm_shl_in _ _ | exact pm_cmp_in _ _ | exact pm_b8_in _ | (unfold pm_inI; split <;> omega)) (fun _ => ?_) (fun h => absurd (show (2 : Int) = (2 : Int) by omega) h)
    refine g_iconst lk_65_16 ?_
    refine g_istore_n (ls' := [(2, ((2 : Nat) : Int)), (0, (many : Int)), (0, 0), (9, 0), (9, 0)]) lk_65_17 rfl rfl ?_
    refine g_iconst lk_65_18 ?_
    refine g_istore_n (ls' := [(2, ((2 : Nat) : Int)), (0, (many : Int)), (0, 0), (0, 0), (9, 0)]) lk_65_19 rfl rfl ?_
    exact loop z 0 0 _ (by omega) (by omega) rfl
  · have ep : pSet ch many t = .inl (flt 2 t) := by unfold pSet; rw [if_neg e]
    obtain ⟨K, hk⟩ : ∃ K, K = t.1 := ⟨_, rfl⟩
    rw [← hk] at f10 t4 e
    refine g_aload_n lk_65_0 rfl ?_
    refine m_getfield (u := []) (M := M) lk_65_1 rfl (lay.on (by decide) rfl) (v := (K : Int)) f10 ?_
    refine g_iconst lk_65_4 ?_
    refine g_icmp (t := 16) lk_65_5 rfl (by first | (unfold pm_inI; omega) | exact pm_and_in _ _ | exact pm_shr_in _ _ | exact pm_or_in _ _ | exact pm_xor_in _ _ | exact pm_shl_in _ _ | exact pm_cmp_in _ _ | exact pm_b8_in _ | (unfold pm_inI; split <;> omega)) (by first | (unfold pm_inI; omega) | exact pm_and_in _ _ | exact pm_shr_in _ _ | exact pm_or_in _ _ | exact pm_xor_in _ _ | exact pm_shl_in _ _ | exact pm_cmp_in _ _ | exact pm_b8_in _ | (unfold pm_inI; split <;> omega)) (fun h1 => ?_) (fun h1 => ?_)
    · replace h1 : (K : Int) = 2 := h1
      omega
    · replace h1 : ¬ ((K : Int) = 2) := h1
      refine g_aload_n lk_65_8 rfl ?_
      refine g_iconst lk_65_9 ?_
      refine g_virtual (p := 2) (Qc := _) lk_65_10 rfl (Nat.le_of_ble_eq_true rfl) rfl rfl (lay.on (by decide) rfl) (Nat.le_of_ble_eq_true rfl) (Nat.le_of_ble_eq_true rfl) (Nat.zero_le _) (Nat.zero_le _) (rf2) ?_
      rintro _ K1 ⟨rfl, lay1, re1, ft1⟩
      show Wp _ 65 13 [(2, ((2 : Nat) : Int)), (0, (many : Int)), (9, 0), (9, 0), (9, 0)] [(0, 0)] K1 _ _ _
      refine g_pop lk_65_13 rfl ?_
      refine g_iconst lk_65_14 ?_
      refine g_ireturn lk_65_15 (fun h => absurd h (by decide)) ?_
      rw [hQ]
      exact ⟨lay1, re1, Or.inl ⟨_, ep, rfl, ft1⟩⟩
