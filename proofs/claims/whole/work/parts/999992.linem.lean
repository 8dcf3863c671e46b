/-! ===== lines of a text, the model ===== -/
set_option maxHeartbeats 4000000 in
theorem c_Mo_readOneF {d mc ms : Nat} {M : pm_M} (lay : Lay M) {n : Nat} {ch : Nat → Nat} {t : Tok} (h : GdM M ch n t) {l : Nat} (hl : l ≤ 1) {x : Nat × Nat} (hx : pNum ch l t = .inl x) :
    pm_E (d + 2) 191 [(2, ((116 : Nat) : Int)), (0, (l : Int))] M mc ms (fun ρ M' => Lay M' ∧ MF [] [31, 32] M M' ∧ BdM M' x ∧ ∃ z : Int, ρ = some (0, z)) := by
  obtain ⟨Q, hQ⟩ : ∃ Q : pm_Q, Q = (fun ρ M' => Lay M' ∧ MF [] [31, 32] M M' ∧ BdM M' x ∧ ∃ z : Int, ρ = some (0, z)) := ⟨_, rfl⟩
  rw [← hQ]
  obtain ⟨g1, g2, g3, g4⟩ := id h
  obtain ⟨t4, k2, k3, k4, k5, k6⟩ := id g4
  have n5 := g1.1
  have ig := h.ig lay (d := d + 1) (mc := 0) (ms := 0)
  obtain ⟨f27, f25, f26, _⟩ := id g3
  have ba := c_Mo_byteAt (d := d + 1) (mc := 0) (ms := 0) lay g1 (k := t.2.1) (by omega)
  have cr := chv_r g1 t.2.1
  have bad : ∀ (e : Nat × Nat) (y : Int) (K1 : pm_M), pNum ch l t = .inl e → 1 ≤ e.1 ∧ e.1 ≤ 5 → Lay K1 → MF [] [31, 32] M K1 → FtM K1 e → Wp (d + 2) 191 71 [(2, ((116 : Nat) : Int)), (0, (l : Int)), (0, y)] [] K1 mc ms Q := by
    intro e y K1 hp he lay1 m1 ft1
    have gb := goOn_bad (d := d) (mc := 0) (ms := 0) lay1 ft1.1 (by omega) (by omega)
    rw [hx] at hp
    cases hp
    refine g_aload_n lk_191_71 rfl ?_
    refine g_virtual (p := 116) (Qc := _) lk_191_72 rfl (Nat.le_of_ble_eq_true rfl) rfl rfl (lay1.on (by decide) rfl) (Nat.le_of_ble_eq_true rfl) (Nat.le_of_ble_eq_true rfl) (Nat.zero_le _) (Nat.zero_le _) (gb) ?_
    rintro _ K2 ⟨rfl, eK⟩
    rw [eK]
    show Wp _ 191 75 [(2, ((116 : Nat) : Int)), (0, (l : Int)), (0, y)] [] K1 _ _ _
    refine g_iload_n lk_191_75 rfl ?_
    refine g_bipush lk_191_76 ?_
    refine g_isub lk_191_78 ?_
    refine g_ireturn lk_191_79 (fun h => absurd h (by decide)) ?_
    rw [hQ]
    exact ⟨lay1, m1, ⟨ft1, he⟩, _, rfl⟩
  show Wp (d + 2) 191 0 [(2, ((116 : Nat) : Int)), (0, (l : Int)), (9, 0)] [] M mc ms Q
  by_cases e : t.1 = 2
  · have lt := k5 (by omega)
    have six := (k6 (Or.inr e)).1
    have f27' : pm_ct M 116 27 = 2 := by rw [f27, e]; rfl
    have rc := run_ch g4 e (i := t.2.1) (by omega) lt
    have cv : chv ch n t.2.1 = (ch t.2.1 : Int) := by omega
    rw [cv] at ba
    have fa4 := c_Mo_fails (d := d + 1) (mc := 0) (ms := 0) lay g3 t4 g2 (w := 4)
    have fr4 := flt_r (w := 4) (t := t) (by omega)
    have hp : pNum ch l t = if t.2.2 = t.2.1 + 1 ∧ 48 + l ≤ ch t.2.1 then .inr (ch t.2.1 - 48) else .inl (flt 4 t) := by unfold pNum; rw [if_pos e]
    obtain ⟨a, ha⟩ : ∃ a, a = t.2.1 := ⟨_, rfl⟩
    obtain ⟨b, hb⟩ : ∃ b, b = t.2.2 := ⟨_, rfl⟩
    obtain ⟨c, hc⟩ : ∃ c, c = ch t.2.1 := ⟨_, rfl⟩
    rw [← hc] at ba rc hp
    rw [← ha] at ba f25 hp lt six k2
    rw [← hb] at f26 hp lt six k2 k3
    by_cases q : b = a + 1 ∧ 48 + l ≤ c
    · rw [if_pos q, hx] at hp
      cases hp
    · rw [if_neg q] at hp
      have bd := fun y K1 => bad (flt 4 t) y K1 hp fr4
      refine g_aload_n lk_191_0 rfl ?_
      refine g_aload_n lk_191_1 rfl ?_
      refine m_getfield (u := []) (M := M) lk_191_2 rfl (lay.on (by decide) rfl) (v := (a : Int)) f25 ?_
      refine g_virtual (p := 116) (Qc := _) lk_191_5 rfl (Nat.le_of_ble_eq_true rfl) rfl rfl (lay.on (by decide) rfl) (Nat.le_of_ble_eq_true rfl) (Nat.le_of_ble_eq_true rfl) (Nat.zero_le _) (Nat.zero_le _) (ba) ?_
      rintro _ N1 ⟨rfl, hN1⟩
      rw [hN1]
      show Wp _ 191 8 [(2, ((116 : Nat) : Int)), (0, (l : Int)), (9, 0)] [(0, (c : Int))] M _ _ _
      refine g_istore_n (ls' := [(2, ((116 : Nat) : Int)), (0, (l : Int)), (0, (c : Int))]) lk_191_8 rfl rfl ?_
      refine g_aload_n lk_191_9 rfl ?_
      refine g_virtual (p := 116) (Qc := _) lk_191_10 rfl (Nat.le_of_ble_eq_true rfl) rfl rfl (lay.on (by decide) rfl) (Nat.le_of_ble_eq_true rfl) (Nat.le_of_ble_eq_true rfl) (Nat.zero_le _) (Nat.zero_le _) (ig) ?_
      rintro _ N2 ⟨rfl, hN2⟩
      rw [hN2]
      show Wp _ 191 13 [(2, ((116 : Nat) : Int)), (0, (l : Int)), (0, (c : Int))] [(0, 1)] M _ _ _
      refine g_if (t := 32) lk_191_13 rfl (by first | (unfold pm_inI; omega) | exact pm_and_in _ _ | exact pm_shr_in _ _ | exact pm_or_in _ _ | exact pm_xor_in _ _ | exact pm_shl_in _ _ | exact pm_cmp_in _ _ | exact pm_b8_in _ | (unfold pm_inI; split <;> omega)) (fun h => absurd h (show ¬ ((1 : Int) = (0 : Int)) by omega)) (fun _ => ?_)
      refine g_aload_n lk_191_16 rfl ?_
      refine m_getfield (u := []) (M := M) lk_191_17 rfl (lay.on (by decide) rfl) (v := 2) f27' ?_
      refine g_iconst lk_191_20 ?_
      refine g_icmp (t := 32) lk_191_21 rfl (by first | (unfold pm_inI; omega) | exact pm_and_in _ _ | exact pm_shr_in _ _ | exact pm_or_in _ _ | exact pm_xor_in _ _ | exact pm_shl_in _ _ | exact pm_cmp_in _ _ | exact pm_b8_in _ | (unfold pm_inI; split <;> omega)) (by first | (unfold pm_inI; omega) | exact pm_and_in _ _ | exact pm_shr_in _ _ | exact pm_or_in _ _ | exact pm_xor_in _ _ | exact pm_shl_in _ _ | exact pm_cmp_in _ _ | exact pm_b8_in _ | (unfold pm_inI; split <;> omega)) (fun _ => ?_) (fun h => absurd (show (2 : Int) = (2 : Int) by omega) h)
      refine g_aload_n lk_191_32 rfl ?_
      refine g_virtual (p := 116) (Qc := _) lk_191_33 rfl (Nat.le_of_ble_eq_true rfl) rfl rfl (lay.on (by decide) rfl) (Nat.le_of_ble_eq_true rfl) (Nat.le_of_ble_eq_true rfl) (Nat.zero_le _) (Nat.zero_le _) (ig) ?_
      rintro _ N3 ⟨rfl, hN3⟩
      rw [hN3]
      show Wp _ 191 36 [(2, ((116 : Nat) : Int)), (0, (l : Int)), (0, (c : Int))] [(0, 1)] M _ _ _
      refine g_if (t := 71) lk_191_36 rfl (by first | (unfold pm_inI; omega) | exact pm_and_in _ _ | exact pm_shr_in _ _ | exact pm_or_in _ _ | exact pm_xor_in _ _ | exact pm_shl_in _ _ | exact pm_cmp_in _ _ | exact pm_b8_in _ | (unfold pm_inI; split <;> omega)) (fun h => absurd h (show ¬ ((1 : Int) = (0 : Int)) by omega)) (fun _ => ?_)
      refine g_aload_n lk_191_39 rfl ?_
      refine m_getfield (u := []) (M := M) lk_191_40 rfl (lay.on (by decide) rfl) (v := (b : Int)) f26 ?_
      refine g_aload_n lk_191_43 rfl ?_
      refine m_getfield (u := []) (M := M) lk_191_44 rfl (lay.on (by decide) rfl) (v := (a : Int)) f25 ?_
      refine g_isub lk_191_47 ?_
      refine g_iconst lk_191_48 ?_
      refine g_icmp (t := 66) lk_191_49 rfl (by first | (unfold pm_inI; omega) | exact pm_and_in _ _ | exact pm_shr_in _ _ | exact pm_or_in _ _ | exact pm_xor_in _ _ | exact pm_shl_in _ _ | exact pm_cmp_in _ _ | exact pm_b8_in _ | (unfold pm_inI; split <;> omega)) (by first | (unfold pm_inI; omega) | exact pm_and_in _ _ | exact pm_shr_in _ _ | exact pm_or_in _ _ | exact pm_xor_in _ _ | exact pm_shl_in _ _ | exact pm_cmp_in _ _ | exact pm_b8_in _ | (unfold pm_inI; split <;> omega)) (fun h4 => ?_) (fun h4 => ?_)
      · replace h4 : 1 < ((b : Int) - (a : Int)) := h4
        refine g_aload_n lk_191_66 rfl ?_
        refine g_iconst lk_191_67 ?_
        refine g_virtual (p := 116) (Qc := _) lk_191_68 rfl (Nat.le_of_ble_eq_true rfl) rfl rfl (lay.on (by decide) rfl) (Nat.le_of_ble_eq_true rfl) (Nat.le_of_ble_eq_true rfl) (Nat.zero_le _) (Nat.zero_le _) (fa4) ?_
        rintro _ K1 ⟨rfl, lay1, m1, ft1⟩
        show Wp _ 191 71 [(2, ((116 : Nat) : Int)), (0, (l : Int)), (0, (c : Int))] [] K1 _ _ _
        first | exact bd _ K1 lay1 m1 ft1 | (exfalso; omega)
      · replace h4 : ¬ (1 < ((b : Int) - (a : Int))) := h4
        refine g_iload_n lk_191_52 rfl ?_
        refine g_bipush lk_191_53 ?_
        refine g_icmp (t := 66) lk_191_55 rfl (by first | (unfold pm_inI; omega) | exact pm_and_in _ _ | exact pm_shr_in _ _ | exact pm_or_in _ _ | exact pm_xor_in _ _ | exact pm_shl_in _ _ | exact pm_cmp_in _ _ | exact pm_b8_in _ | (unfold pm_inI; split <;> omega)) (by first | (unfold pm_inI; omega) | exact pm_and_in _ _ | exact pm_shr_in _ _ | exact pm_or_in _ _ | exact pm_xor_in _ _ | exact pm_shl_in _ _ | exact pm_cmp_in _ _ | exact pm_b8_in _ | (unfold pm_inI; split <;> omega)) (fun h5 => ?_) (fun h5 => ?_)
        · replace h5 : (c : Int) = 46 := h5
          refine g_aload_n lk_191_66 rfl ?_
          refine g_iconst lk_191_67 ?_
          refine g_virtual (p := 116) (Qc := _) lk_191_68 rfl (Nat.le_of_ble_eq_true rfl) rfl rfl (lay.on (by decide) rfl) (Nat.le_of_ble_eq_true rfl) (Nat.le_of_ble_eq_true rfl) (Nat.zero_le _) (Nat.zero_le _) (fa4) ?_
          rintro _ K1 ⟨rfl, lay1, m1, ft1⟩
          show Wp _ 191 71 [(2, ((116 : Nat) : Int)), (0, (l : Int)), (0, (c : Int))] [] K1 _ _ _
          first | exact bd _ K1 lay1 m1 ft1 | (exfalso; omega)
        · replace h5 : ¬ ((c : Int) = 46) := h5
          refine g_iload_n lk_191_58 rfl ?_
          refine g_bipush lk_191_59 ?_
          refine g_isub lk_191_61 ?_
          refine g_iload_n lk_191_62 rfl ?_
          refine g_icmp (t := 71) lk_191_63 rfl (by first | (unfold pm_inI; omega) | exact pm_and_in _ _ | exact pm_shr_in _ _ | exact pm_or_in _ _ | exact pm_xor_in _ _ | exact pm_shl_in _ _ | exact pm_cmp_in _ _ | exact pm_b8_in _ | (unfold pm_inI; split <;> omega)) (by first | (unfold pm_inI; omega) | exact pm_and_in _ _ | exact pm_shr_in _ _ | exact pm_or_in _ _ | exact pm_xor_in _ _ | exact pm_shl_in _ _ | exact pm_cmp_in _ _ | exact pm_b8_in _ | (unfold pm_inI; split <;> omega)) (fun h6 => ?_) (fun h6 => ?_)
          · replace h6 : (l : Int) ≤ ((c : Int) - 48) := h6
            first | exact bd _ K1 lay1 m1 ft1 | (exfalso; omega)
          · replace h6 : ¬ ((l : Int) ≤ ((c : Int) - 48)) := h6
            refine g_aload_n lk_191_66 rfl ?_
            refine g_iconst lk_191_67 ?_
            refine g_virtual (p := 116) (Qc := _) lk_191_68 rfl (Nat.le_of_ble_eq_true rfl) rfl rfl (lay.on (by decide) rfl) (Nat.le_of_ble_eq_true rfl) (Nat.le_of_ble_eq_true rfl) (Nat.zero_le _) (Nat.zero_le _) (fa4) ?_
            rintro _ K1 ⟨rfl, lay1, m1, ft1⟩
            show Wp _ 191 71 [(2, ((116 : Nat) : Int)), (0, (l : Int)), (0, (c : Int))] [] K1 _ _ _
            first | exact bd _ K1 lay1 m1 ft1 | (exfalso; omega)
  · have hp : pNum ch l t = .inl (flt 2 t) := by unfold pNum; rw [if_neg e]
    have fa2 := c_Mo_fails (d := d + 1) (mc := 0) (ms := 0) lay g3 t4 g2 (w := 2)
    have fr2 := flt_r (w := 2) (t := t) (by omega)
    have bd := fun y K1 => bad (flt 2 t) y K1 hp fr2
    obtain ⟨y, hy⟩ : ∃ y, y = chv ch n t.2.1 := ⟨_, rfl⟩
    rw [← hy] at ba
    obtain ⟨a, ha⟩ : ∃ a, a = t.2.1 := ⟨_, rfl⟩
    rw [← ha] at ba f25
    obtain ⟨K, hk⟩ : ∃ K, K = t.1 := ⟨_, rfl⟩
    rw [← hk] at f27 t4 e
    refine g_aload_n lk_191_0 rfl ?_
    refine g_aload_n lk_191_1 rfl ?_
    refine m_getfield (u := []) (M := M) lk_191_2 rfl (lay.on (by decide) rfl) (v := (a : Int)) f25 ?_
    refine g_virtual (p := 116) (Qc := _) lk_191_5 rfl (Nat.le_of_ble_eq_true rfl) rfl rfl (lay.on (by decide) rfl) (Nat.le_of_ble_eq_true rfl) (Nat.le_of_ble_eq_true rfl) (Nat.zero_le _) (Nat.zero_le _) (ba) ?_
    rintro _ N1 ⟨rfl, hN1⟩
    rw [hN1]
    show Wp _ 191 8 [(2, ((116 : Nat) : Int)), (0, (l : Int)), (9, 0)] [(0, y)] M _ _ _
    refine g_istore_n (ls' := [(2, ((116 : Nat) : Int)), (0, (l : Int)), (0, y)]) lk_191_8 rfl rfl ?_
    refine g_aload_n lk_191_9 rfl ?_
    refine g_virtual (p := 116) (Qc := _) lk_191_10 rfl (Nat.le_of_ble_eq_true rfl) rfl rfl (lay.on (by decide) rfl) (Nat.le_of_ble_eq_true rfl) (Nat.le_of_ble_eq_true rfl) (Nat.zero_le _) (Nat.zero_le _) (ig) ?_
    rintro _ N2 ⟨rfl, hN2⟩
    rw [hN2]
    show Wp _ 191 13 [(2, ((116 : Nat) : Int)), (0, (l : Int)), (0, y)] [(0, 1)] M _ _ _
    refine g_if (t := 32) lk_191_13 rfl (by first | (unfold pm_inI; omega) | exact pm_and_in _ _ | exact pm_shr_in _ _ | exact pm_or_in _ _ | exact pm_xor_in _ _ | exact pm_shl_in _ _ | exact pm_cmp_in _ _ | exact pm_b8_in _ | (unfold pm_inI; split <;> omega)) (fun h => absurd h (show ¬ ((1 : Int) = (0 : Int)) by omega)) (fun _ => ?_)
    refine g_aload_n lk_191_16 rfl ?_
    refine m_getfield (u := []) (M := M) lk_191_17 rfl (lay.on (by decide) rfl) (v := (K : Int)) f27 ?_
    refine g_iconst lk_191_20 ?_
    refine g_icmp (t := 32) lk_191_21 rfl (by first | (unfold pm_inI; omega) | exact pm_and_in _ _ | exact pm_shr_in _ _ | exact pm_or_in _ _ | exact pm_xor_in _ _ | exact pm_shl_in _ _ | exact pm_cmp_in _ _ | exact pm_b8_in _ | (unfold pm_inI; split <;> omega)) (by first | (unfold pm_inI; omega) | exact pm_and_in _ _ | exact pm_shr_in _ _ | exact pm_or_in _ _ | exact pm_xor_in _ _ | exact pm_shl_in _ _ | exact pm_cmp_in _ _ | exact pm_b8_in _ | (unfold pm_inI; split <;> omega)) (fun h3 => ?_) (fun h3 => ?_)
    · replace h3 : (K : Int) = 2 := h3
      omega
    · replace h3 : ¬ ((K : Int) = 2) := h3
      refine g_aload_n lk_191_24 rfl ?_
      refine g_iconst lk_191_25 ?_
      refine g_virtual (p := 116) (Qc := _) lk_191_26 rfl (Nat.le_of_ble_eq_true rfl) rfl rfl (lay.on (by decide) rfl) (Nat.le_of_ble_eq_true rfl) (Nat.le_of_ble_eq_true rfl) (Nat.zero_le _) (Nat.zero_le _) (fa2) ?_
      rintro _ K1 ⟨rfl, lay1, m1, ft1⟩
      show Wp _ 191 29 [(2, ((116 : Nat) : Int)), (0, (l : Int)), (0, y)] [] K1 _ _ _
      refine g_goto (t := 71) lk_191_29 rfl ?_
      exact bd _ K1 lay1 m1 ft1
/-- a tree of a text up to its stop -/
def pT0 (ch : Nat → Nat) (n R C : Nat) (Ts : List Nt) (t : Tok) : Sum (Nat × Nat) (Nt × Tok) :=
  if 4 ≤ Ts.length then .inl (flt 5 t)
  else if isNm ch (lxt ch n t.2.2) then
    (if twd ch (lxt ch n t.2.2) ∈ Ts.map (fun x => x.1) then .inl (flt 3 (lxt ch n t.2.2))
    else (match pN ch n R C 10 0 0 0 (lxt ch n (lxt ch n t.2.2).2.2) with
      | .inl e => .inl e
      | .inr (L, t1) => .inr ((twd ch (lxt ch n t.2.2), L), t1)))
  else .inl (flt 2 (lxt ch n t.2.2))
theorem pT0_l {ch : Nat → Nat} {n R C : Nat} {Ts : List Nt} {t : Tok} {e : Nat × Nat} (h : pT0 ch n R C Ts t = .inl e) : pTree ch n R C Ts t = .inl e := by
  unfold pT0 at h
  by_cases a : 4 ≤ Ts.length
  · rw [if_pos a] at h
    rw [pTree_5 a]; exact h
  · rw [if_neg a] at h
    by_cases b : isNm ch (lxt ch n t.2.2)
    · rw [if_pos b] at h
      by_cases c : twd ch (lxt ch n t.2.2) ∈ Ts.map (fun x => x.1)
      · rw [if_pos c] at h
        rw [pTree_3 a b c]; exact h
      · rw [if_neg c] at h
        cases k1 : pN ch n R C 10 0 0 0 (lxt ch n (lxt ch n t.2.2).2.2) with
        | inl y => rw [k1] at h; rw [pTree_n a b c k1]; exact h
        | inr y => rw [k1] at h; cases h
    · rw [if_neg b] at h
      rw [pTree_2 a b]; exact h
theorem pT0_s {ch : Nat → Nat} {n R C : Nat} {Ts : List Nt} {t t1 : Tok} {x : Nt} {e : Nat × Nat} (h : pT0 ch n R C Ts t = .inr (x, t1)) (k : pStop ch n t1 = .inl e) : pTree ch n R C Ts t = .inl e := by
  unfold pT0 at h
  by_cases a : 4 ≤ Ts.length
  · rw [if_pos a] at h; cases h
  · rw [if_neg a] at h
    by_cases b : isNm ch (lxt ch n t.2.2)
    · rw [if_pos b] at h
      by_cases c : twd ch (lxt ch n t.2.2) ∈ Ts.map (fun x => x.1)
      · rw [if_pos c] at h; cases h
      · rw [if_neg c] at h
        cases k1 : pN ch n R C 10 0 0 0 (lxt ch n (lxt ch n t.2.2).2.2) with
        | inl y => rw [k1] at h; cases h
        | inr y =>
          obtain ⟨L, t2⟩ := y
          rw [k1] at h
          cases h
          exact pTree_s a b c k1 k
    · rw [if_neg b] at h; cases h
theorem pT0_r {ch : Nat → Nat} {n R C : Nat} {Ts : List Nt} {t t1 t' : Tok} {x : Nt} (h : pT0 ch n R C Ts t = .inr (x, t1)) (k : pStop ch n t1 = .inr t') : pTree ch n R C Ts t = .inr (x, t') := by
  unfold pT0 at h
  by_cases a : 4 ≤ Ts.length
  · rw [if_pos a] at h; cases h
  · rw [if_neg a] at h
    by_cases b : isNm ch (lxt ch n t.2.2)
    · rw [if_pos b] at h
      by_cases c : twd ch (lxt ch n t.2.2) ∈ Ts.map (fun x => x.1)
      · rw [if_pos c] at h; cases h
      · rw [if_neg c] at h
        cases k1 : pN ch n R C 10 0 0 0 (lxt ch n (lxt ch n t.2.2).2.2) with
        | inl y => rw [k1] at h; cases h
        | inr y =>
          obtain ⟨L, t2⟩ := y
          rw [k1] at h
          cases h
          exact pTree_ok a b c k1 k
    · rw [if_neg b] at h; cases h
/-- the trees that the model has read -/
def TrsM (M : pm_M) (Ts : List Nt) : Prop := NmM M Ts ∧ ∀ (i : Nat) (x : Nt), Ts[i]? = some x → x.2.length ≤ 31 ∧ pm_ct M 127 i = (x.2.length : Int) ∧ SgAt M 127 (31 * i) (nds x)
theorem TrsM.mf {S K : List Nat} {M N : pm_M} {Ts : List Nt} (h : TrsM M Ts) (k : MF S K M N) (h1 : 6 ∉ K) (h2 : ∀ a, a ∈ [119, 127, 128, 129, 130] → a ∉ S) : TrsM N Ts := by
  unfold TrsM NmM SgAt at h ⊢
  rw [k.fd h1, k.ct (h2 119 (by decide)) (by decide), k.ct (h2 127 (by decide)) (by decide), k.ct (a := 127 + 1) (h2 128 (by decide)) (by decide), k.ct (a := 127 + 2) (h2 129 (by decide)) (by decide), k.ct (a := 127 + 3) (h2 130 (by decide)) (by decide)]
  exact h
theorem TrsM.push {M N : pm_M} {Ts : List Nt} {x : Nt} {k : Nat} (ek : k = Ts.length) (h : TrsM M Ts) (f6 : pm_ct N 116 6 = ((k + 1 : Nat) : Int)) (h19 : pm_ct N 119 = pm_upd (pm_ct M 119) k ((nr 32 x.1 : Nat) : Int)) (lx : LtOK x.1) (h27 : pm_ct N 127 = pm_upd (pm_ct M 127) k (x.2.length : Int)) (l31 : x.2.length ≤ 31) (bl : Blw M N 127 (31 * k)) (sg : SgAt N 127 (31 * k) (nds x)) : TrsM N (Ts ++ [x]) := by
  obtain ⟨⟨_, a1⟩, a2⟩ := h
  refine ⟨⟨?_, fun i y hy => ?_⟩, fun i y hy => ?_⟩
  · rw [f6, List.length_append, ek]; rfl
  · rw [h19]
    by_cases e : i = k
    · rw [e, ek, List.getElem?_append_right (Nat.le_refl _), Nat.sub_self] at hy
      have ey : x = y := Option.some.inj hy
      rw [e, pm_upd_eq, ← ey]
      exact ⟨rfl, lx⟩
    · have il : i < Ts.length := by
        have := (List.getElem?_eq_some_iff.mp hy).1
        rw [List.length_append] at this
        have t1 : ([x] : List Nt).length = 1 := rfl
        omega
      rw [List.getElem?_append_left il] at hy
      rw [pm_upd_ne e]
      exact a1 i y hy
  · rw [h27]
    by_cases e : i = k
    · rw [e, ek, List.getElem?_append_right (Nat.le_refl _), Nat.sub_self] at hy
      have ey : x = y := Option.some.inj hy
      rw [e, pm_upd_eq, ← ey]
      exact ⟨l31, rfl, sg⟩
    · have il : i < Ts.length := by
        have := (List.getElem?_eq_some_iff.mp hy).1
        rw [List.length_append] at this
        have t1 : ([x] : List Nt).length = 1 := rfl
        omega
      rw [List.getElem?_append_left il] at hy
      rw [pm_upd_ne e]
      obtain ⟨b1, b2, b3⟩ := a2 i y hy
      refine ⟨b1, b2, fun j z hz => ?_⟩
      have jl := (List.getElem?_eq_some_iff.mp hz).1
      have jl' : j < (y.2.map (fun y => y.1)).length := jl
      rw [List.length_map] at jl'
      obtain ⟨c1, c2, c3⟩ := bl (31 * i + j) (by omega)
      rw [c1, c2, c3]
      exact b3 j z hz
abbrev teK : List Nat := [6, 25, 26, 27, 28, 31, 32, 35]
abbrev teS : List Nat := [119, 127, 128, 129, 130, 131, 133]
def ToM (N : pm_M) (n : Nat) (ch : Nat → Nat) (Ts : List Nt) (r : Sum (Nat × Nat) (Nt × Tok)) : Prop := match r with
  | .inl e => BdM N e
  | .inr x => GdM N ch n x.2 ∧ TrsM N (Ts ++ [x.1])
set_option maxHeartbeats 4000000 in
theorem c_Mo_readTree {d mc ms n R C : Nat} {ch : Nat → Nat} {t : Tok} {M : pm_M} {Ts : List Nt} (lay : Lay M) (hG : GdM M ch n t) (hKd : KdM M 128) (hR : R ≤ 6) (hC : C ≤ 6) (f4 : pm_ct M 116 4 = (R : Int)) (f5 : pm_ct M 116 5 = (C : Int)) (hTs : TrsM M Ts) (l4 : Ts.length ≤ 4) :
    pm_E (d + 4) 194 [(2, ((116 : Nat) : Int))] M mc ms (fun ρ M' => ρ = none ∧ Lay M' ∧ MF teS teK M M' ∧ KdM M' 128 ∧ ToM M' n ch Ts (pT0 ch n R C Ts t)) := by
  obtain ⟨Q, hQ⟩ : ∃ Q : pm_Q, Q = (fun ρ M' => ρ = none ∧ Lay M' ∧ MF teS teK M M' ∧ KdM M' 128 ∧ ToM M' n ch Ts (pT0 ch n R C Ts t)) := ⟨_, rfl⟩
  rw [← hQ]
  have f6 := hTs.1.1
  have hK := hG.2.2.2
  have n5 := hG.1.1
  have u1 := (lxt_ok (ch := ch) hK.2.2.1 n5).1
  have u2 := (lxt_ok (ch := ch) u1.2.2.1 n5).1
  show Wp (d + 4) 194 0 [(2, ((116 : Nat) : Int))] [] M mc ms Q
  obtain ⟨k, hk⟩ : ∃ k, k = Ts.length := ⟨_, rfl⟩
  rw [← hk] at f6 l4
  have bad58 : ∀ (e : Nat × Nat) (K : pm_M), pT0 ch n R C Ts t = .inl e → Lay K → MF [] rdK M K → BdM K e → Wp (d + 4) 194 58 [(2, ((116 : Nat) : Int))] [] K mc ms Q := by
    intro e K hp lK mK bK
    have ig := bK.ig lK (d := d + 3) (mc := 0) (ms := 0)
    refine g_aload_n lk_194_58 rfl ?_
    refine g_virtual (p := 116) (Qc := _) lk_194_59 rfl (Nat.le_of_ble_eq_true rfl) rfl rfl (lK.on (by decide) rfl) (Nat.le_of_ble_eq_true rfl) (Nat.le_of_ble_eq_true rfl) (Nat.zero_le _) (Nat.zero_le _) (ig) ?_
    rintro _ N1 ⟨rfl, hN1⟩
    rw [hN1]
    show Wp _ 194 62 [(2, ((116 : Nat) : Int))] [(0, 0)] K _ _ _
    refine g_if (t := 66) lk_194_62 rfl (by first | (unfold pm_inI; omega) | exact pm_and_in _ _ | exact pm_shr_in _ _ | exact pm_or_in _ _ | exact pm_xor_in _ _ | exact pm_shl_in _ _ | exact pm_cmp_in _ _ | exact pm_b8_in _ | (unfold pm_inI; split <;> omega)) (fun h => absurd h (show ¬ (¬ (0 : Int) = (0 : Int)) by omega)) (fun _ => ?_)
    refine g_return lk_194_65 ?_
    rw [hQ, hp]
    exact ⟨rfl, lK, mK.mono (fun a q => by cases q) (fun a q => by simp at q ⊢; omega), hKd.mf mK (by decide) (by decide), bK⟩
  by_cases a : 4 ≤ k
  · have hp : pT0 ch n R C Ts t = .inl (flt 5 t) := by unfold pT0; rw [if_pos (by omega)]
    have ek : k = 4 := by omega
    rw [ek] at f6
    have f6' : pm_ct M 116 6 = 4 := f6
    have fa := hG.fa lay (d := d + 3) (mc := 0) (ms := 0) (w := 5)
    have fr := flt_r (w := 5) (t := t) (by omega)
    have k13 : ∀ K : pm_M, Lay K → MF [] [31, 32] M K → FtM K (flt 5 t) → Wp (d + 4) 194 13 [(2, ((116 : Nat) : Int))] [] K mc ms Q := by
      intro K lK mK ft
      have bK : BdM K (flt 5 t) := ⟨ft, fr⟩
      have ig := bK.ig lK (d := d + 3) (mc := 0) (ms := 0)
      have gb := bK.go lK (d := d + 2) (mc := 0) (ms := 0)
      refine g_aload_n lk_194_13 rfl ?_
      refine g_virtual (p := 116) (Qc := _) lk_194_14 rfl (Nat.le_of_ble_eq_true rfl) rfl rfl (lK.on (by decide) rfl) (Nat.le_of_ble_eq_true rfl) (Nat.le_of_ble_eq_true rfl) (Nat.zero_le _) (Nat.zero_le _) (gb) ?_
      rintro _ K2 ⟨rfl, eK⟩
      rw [eK]
      show Wp _ 194 17 [(2, ((116 : Nat) : Int))] [] K _ _ _
      refine g_aload_n lk_194_17 rfl ?_
      refine g_virtual (p := 116) (Qc := _) lk_194_18 rfl (Nat.le_of_ble_eq_true rfl) rfl rfl (lK.on (by decide) rfl) (Nat.le_of_ble_eq_true rfl) (Nat.le_of_ble_eq_true rfl) (Nat.zero_le _) (Nat.zero_le _) (ig) ?_
      rintro _ N1 ⟨rfl, hN1⟩
      rw [hN1]
      show Wp _ 194 21 [(2, ((116 : Nat) : Int))] [(0, 0)] K _ _ _
      refine g_if (t := 39) lk_194_21 rfl (by first | (unfold pm_inI; omega) | exact pm_and_in _ _ | exact pm_shr_in _ _ | exact pm_or_in _ _ | exact pm_xor_in _ _ | exact pm_shl_in _ _ | exact pm_cmp_in _ _ | exact pm_b8_in _ | (unfold pm_inI; split <;> omega)) (fun _ => ?_) (fun h => absurd (show (0 : Int) = (0 : Int) by omega) h)
      refine g_aload_n lk_194_39 rfl ?_
      refine g_virtual (p := 116) (Qc := _) lk_194_40 rfl (Nat.le_of_ble_eq_true rfl) rfl rfl (lK.on (by decide) rfl) (Nat.le_of_ble_eq_true rfl) (Nat.le_of_ble_eq_true rfl) (Nat.zero_le _) (Nat.zero_le _) (ig) ?_
      rintro _ N2 ⟨rfl, hN2⟩
      rw [hN2]
      show Wp _ 194 43 [(2, ((116 : Nat) : Int))] [(0, 0)] K _ _ _
      refine g_if (t := 58) lk_194_43 rfl (by first | (unfold pm_inI; omega) | exact pm_and_in _ _ | exact pm_shr_in _ _ | exact pm_or_in _ _ | exact pm_xor_in _ _ | exact pm_shl_in _ _ | exact pm_cmp_in _ _ | exact pm_b8_in _ | (unfold pm_inI; split <;> omega)) (fun _ => ?_) (fun h => absurd (show (0 : Int) = (0 : Int) by omega) h)
      exact bad58 _ K hp lK (mK.mono (fun a q => q) (fun a q => by simp at q ⊢; omega)) bK
    refine g_aload_n lk_194_0 rfl ?_
    refine m_getfield (u := []) (M := M) lk_194_1 rfl (lay.on (by decide) rfl) (v := 4) f6' ?_
    refine g_iconst lk_194_4 ?_
    refine g_icmp (t := 13) lk_194_5 rfl (by first | (unfold pm_inI; omega) | exact pm_and_in _ _ | exact pm_shr_in _ _ | exact pm_or_in _ _ | exact pm_xor_in _ _ | exact pm_shl_in _ _ | exact pm_cmp_in _ _ | exact pm_b8_in _ | (unfold pm_inI; split <;> omega)) (by first | (unfold pm_inI; omega) | exact pm_and_in _ _ | exact pm_shr_in _ _ | exact pm_or_in _ _ | exact pm_xor_in _ _ | exact pm_shl_in _ _ | exact pm_cmp_in _ _ | exact pm_b8_in _ | (unfold pm_inI; split <;> omega)) (fun h => absurd h (show ¬ (¬ (4 : Int) = (4 : Int)) by omega)) (fun _ => ?_)
    refine g_aload_n lk_194_8 rfl ?_
    refine g_iconst lk_194_9 ?_
    refine g_virtual (p := 116) (Qc := _) lk_194_10 rfl (Nat.le_of_ble_eq_true rfl) rfl rfl (lay.on (by decide) rfl) (Nat.le_of_ble_eq_true rfl) (Nat.le_of_ble_eq_true rfl) (Nat.zero_le _) (Nat.zero_le _) (fa) ?_
    rintro _ K1 ⟨rfl, lay1, m1, ft1⟩
    show Wp _ 194 13 [(2, ((116 : Nat) : Int))] [] K1 _ _ _
    exact k13 K1 lay1 m1 ft1
  · have a' : ¬ 4 ≤ Ts.length := by omega
    have good : ∀ K : pm_M, Lay K → MF [] [25, 26, 27, 28] M K → GdM K ch n (lxt ch n t.2.2) → Wp (d + 4) 194 17 [(2, ((116 : Nat) : Int))] [] K mc ms Q := by
      intro K lK mK gK
      have m0 : MF [] rdK M K := mK.mono (fun a q => q) (fun a q => by simp at q ⊢; omega)
      have ig := gK.ig lK (d := d + 3) (mc := 0) (ms := 0)
      have nm := c_Mo_isName (d := d + 1) (mc := 0) (ms := 0) lK gK.2.2.1 gK.2.2.2
      by_cases b : isNm ch (lxt ch n t.2.2)
      rotate_left
      · rw [if_neg b] at nm
        have hp : pT0 ch n R C Ts t = .inl (flt 2 (lxt ch n t.2.2)) := by unfold pT0; rw [if_neg a', if_neg b]
        have fa := gK.fa lK (d := d + 3) (mc := 0) (ms := 0) (w := 2)
        have fr := flt_r (w := 2) (t := lxt ch n t.2.2) (by omega)
        refine g_aload_n lk_194_17 rfl ?_
        refine g_virtual (p := 116) (Qc := _) lk_194_18 rfl (Nat.le_of_ble_eq_true rfl) rfl rfl (lK.on (by decide) rfl) (Nat.le_of_ble_eq_true rfl) (Nat.le_of_ble_eq_true rfl) (Nat.zero_le _) (Nat.zero_le _) (ig) ?_
        rintro _ N1 ⟨rfl, hN1⟩
        rw [hN1]
        show Wp _ 194 21 [(2, ((116 : Nat) : Int))] [(0, 1)] K _ _ _
        refine g_if (t := 39) lk_194_21 rfl (by first | (unfold pm_inI; omega) | exact pm_and_in _ _ | exact pm_shr_in _ _ | exact pm_or_in _ _ | exact pm_xor_in _ _ | exact pm_shl_in _ _ | exact pm_cmp_in _ _ | exact pm_b8_in _ | (unfold pm_inI; split <;> omega)) (fun h => absurd h (show ¬ ((1 : Int) = (0 : Int)) by omega)) (fun _ => ?_)
        refine g_aload_n lk_194_24 rfl ?_
        refine g_virtual (p := 116) (Qc := _) lk_194_25 rfl (Nat.le_of_ble_eq_true rfl) rfl rfl (lK.on (by decide) rfl) (Nat.le_of_ble_eq_true rfl) (Nat.le_of_ble_eq_true rfl) (Nat.zero_le _) (Nat.zero_le _) (nm) ?_
        rintro _ N2 ⟨rfl, hN2⟩
        rw [hN2]
        show Wp _ 194 28 [(2, ((116 : Nat) : Int))] [(0, 0)] K _ _ _
        refine g_if (t := 39) lk_194_28 rfl (by first | (unfold pm_inI; omega) | exact pm_and_in _ _ | exact pm_shr_in _ _ | exact pm_or_in _ _ | exact pm_xor_in _ _ | exact pm_shl_in _ _ | exact pm_cmp_in _ _ | exact pm_b8_in _ | (unfold pm_inI; split <;> omega)) (fun h => absurd h (show ¬ (¬ (0 : Int) = (0 : Int)) by omega)) (fun _ => ?_)
        refine g_aload_n lk_194_31 rfl ?_
        refine g_iconst lk_194_32 ?_
        refine g_virtual (p := 116) (Qc := _) lk_194_33 rfl (Nat.le_of_ble_eq_true rfl) rfl rfl (lK.on (by decide) rfl) (Nat.le_of_ble_eq_true rfl) (Nat.le_of_ble_eq_true rfl) (Nat.zero_le _) (Nat.zero_le _) (fa) ?_
        rintro _ K1 ⟨rfl, lay1, m1, ft1⟩
        show Wp _ 194 36 [(2, ((116 : Nat) : Int))] [] K1 _ _ _
        refine g_goto (t := 58) lk_194_36 rfl ?_
        exact bad58 _ K1 hp lay1 (m0.trans (m1.mono (fun a q => q) (fun a q => by simp at q ⊢; omega))) ⟨ft1, fr⟩
      · rw [if_pos b] at nm
        have tl := c_Mo_isTold (d := d + 3) (mc := 0) (ms := 0) lK gK.2.2.1 gK.2.2.2 b.1 (Ts := Ts) (by omega) (hTs.mf mK (by decide) (by decide)).1
        by_cases c : twd ch (lxt ch n t.2.2) ∈ Ts.map (fun x => x.1)
        · rw [if_pos c] at tl
          have hp : pT0 ch n R C Ts t = .inl (flt 3 (lxt ch n t.2.2)) := by unfold pT0; rw [if_neg a', if_pos b, if_pos c]
          have fa := gK.fa lK (d := d + 3) (mc := 0) (ms := 0) (w := 3)
          have fr := flt_r (w := 3) (t := lxt ch n t.2.2) (by omega)
          refine g_aload_n lk_194_17 rfl ?_
          refine g_virtual (p := 116) (Qc := _) lk_194_18 rfl (Nat.le_of_ble_eq_true rfl) rfl rfl (lK.on (by decide) rfl) (Nat.le_of_ble_eq_true rfl) (Nat.le_of_ble_eq_true rfl) (Nat.zero_le _) (Nat.zero_le _) (ig) ?_
          rintro _ N1 ⟨rfl, hN1⟩
          rw [hN1]
          show Wp _ 194 21 [(2, ((116 : Nat) : Int))] [(0, 1)] K _ _ _
          refine g_if (t := 39) lk_194_21 rfl (by first | (unfold pm_inI; omega) | exact pm_and_in _ _ | exact pm_shr_in _ _ | exact pm_or_in _ _ | exact pm_xor_in _ _ | exact pm_shl_in _ _ | exact pm_cmp_in _ _ | exact pm_b8_in _ | (unfold pm_inI; split <;> omega)) (fun h => absurd h (show ¬ ((1 : Int) = (0 : Int)) by omega)) (fun _ => ?_)
          refine g_aload_n lk_194_24 rfl ?_
          refine g_virtual (p := 116) (Qc := _) lk_194_25 rfl (Nat.le_of_ble_eq_true rfl) rfl rfl (lK.on (by decide) rfl) (Nat.le_of_ble_eq_true rfl) (Nat.le_of_ble_eq_true rfl) (Nat.zero_le _) (Nat.zero_le _) (nm) ?_
          rintro _ N2 ⟨rfl, hN2⟩
          rw [hN2]
          show Wp _ 194 28 [(2, ((116 : Nat) : Int))] [(0, 1)] K _ _ _
          refine g_if (t := 39) lk_194_28 rfl (by first | (unfold pm_inI; omega) | exact pm_and_in _ _ | exact pm_shr_in _ _ | exact pm_or_in _ _ | exact pm_xor_in _ _ | exact pm_shl_in _ _ | exact pm_cmp_in _ _ | exact pm_b8_in _ | (unfold pm_inI; split <;> omega)) (fun _ => ?_) (fun h => absurd (show ¬ (1 : Int) = (0 : Int) by omega) h)
          refine g_aload_n lk_194_39 rfl ?_
          refine g_virtual (p := 116) (Qc := _) lk_194_40 rfl (Nat.le_of_ble_eq_true rfl) rfl rfl (lK.on (by decide) rfl) (Nat.le_of_ble_eq_true rfl) (Nat.le_of_ble_eq_true rfl) (Nat.zero_le _) (Nat.zero_le _) (ig) ?_
          rintro _ N3 ⟨rfl, hN3⟩
          rw [hN3]
          show Wp _ 194 43 [(2, ((116 : Nat) : Int))] [(0, 1)] K _ _ _
          refine g_if (t := 58) lk_194_43 rfl (by first | (unfold pm_inI; omega) | exact pm_and_in _ _ | exact pm_shr_in _ _ | exact pm_or_in _ _ | exact pm_xor_in _ _ | exact pm_shl_in _ _ | exact pm_cmp_in _ _ | exact pm_b8_in _ | (unfold pm_inI; split <;> omega)) (fun h => absurd h (show ¬ ((1 : Int) = (0 : Int)) by omega)) (fun _ => ?_)
          refine g_aload_n lk_194_46 rfl ?_
          refine g_virtual (p := 116) (Qc := _) lk_194_47 rfl (Nat.le_of_ble_eq_true rfl) rfl rfl (lK.on (by decide) rfl) (Nat.le_of_ble_eq_true rfl) (Nat.le_of_ble_eq_true rfl) (Nat.zero_le _) (Nat.zero_le _) (tl) ?_
          rintro _ N4 ⟨rfl, hN4⟩
          rw [hN4]
          show Wp _ 194 50 [(2, ((116 : Nat) : Int))] [(0, 1)] K _ _ _
          refine g_if (t := 58) lk_194_50 rfl (by first | (unfold pm_inI; omega) | exact pm_and_in _ _ | exact pm_shr_in _ _ | exact pm_or_in _ _ | exact pm_xor_in _ _ | exact pm_shl_in _ _ | exact pm_cmp_in _ _ | exact pm_b8_in _ | (unfold pm_inI; split <;> omega)) (fun h => absurd h (show ¬ ((1 : Int) = (0 : Int)) by omega)) (fun _ => ?_)
          refine g_aload_n lk_194_53 rfl ?_
          refine g_iconst lk_194_54 ?_
          refine g_virtual (p := 116) (Qc := _) lk_194_55 rfl (Nat.le_of_ble_eq_true rfl) rfl rfl (lK.on (by decide) rfl) (Nat.le_of_ble_eq_true rfl) (Nat.le_of_ble_eq_true rfl) (Nat.zero_le _) (Nat.zero_le _) (fa) ?_
          rintro _ K1 ⟨rfl, lay1, m1, ft1⟩
          show Wp _ 194 58 [(2, ((116 : Nat) : Int))] [] K1 _ _ _
          exact bad58 _ K1 hp lay1 (m0.trans (m1.mono (fun a q => q) (fun a q => by simp at q ⊢; omega))) ⟨ft1, fr⟩
        · rw [if_neg c] at tl
          have w28 := gK.2.2.1.2.2.2 b.1
          have f6K : pm_ct K 116 6 = (k : Int) := by rw [mK.fd (by decide)]; exact f6
          have k79 : ∀ N : pm_M, Lay N → MF [119] [] K N → pm_ct N 119 = pm_upd (pm_ct K 119) k ((nr 32 (twd ch (lxt ch n t.2.2)) : Nat) : Int) → Wp (d + 4) 194 79 [(2, ((116 : Nat) : Int))] [] N mc ms Q := by
            intro N lN mN c19
            have gN := gK.mf mN (by decide) (by decide)
            have go := gN.go lN (d := d + 2) (mc := 0) (ms := 0)
            have kN : KdM N 128 := (hKd.mf mK (by decide) (by decide)).mf mN (by decide) (by decide)
            have f4N : pm_ct N 116 4 = (R : Int) := by rw [mN.fd (by decide), mK.fd (by decide)]; exact f4
            have f5N : pm_ct N 116 5 = (C : Int) := by rw [mN.fd (by decide), mK.fd (by decide)]; exact f5
            have f6N : pm_ct N 116 6 = (k : Int) := by rw [mN.fd (by decide)]; exact f6K
            have e1 : (k : Int) + 1 = ((k + 1 : Nat) : Int) := by omega
            have m01 : MF teS teK M N := (mK.mono (fun a q => by cases q) (fun a q => by simp at q ⊢; omega)).trans (mN.mono (fun a q => by simp at q ⊢; omega) (fun a q => by cases q))
            refine g_aload_n lk_194_79 rfl ?_
            refine g_virtual (p := 116) (Qc := _) lk_194_80 rfl (Nat.le_of_ble_eq_true rfl) rfl rfl (lN.on (by decide) rfl) (Nat.le_of_ble_eq_true rfl) (Nat.le_of_ble_eq_true rfl) (Nat.zero_le _) (Nat.zero_le _) (go) ?_
            rintro _ K2 ⟨rfl, lay2, m2, tk2⟩
            have gd2 := gN.next m2 tk2
            have rn := c_Mo_readNodes (d := d) (mc := 0) (ms := 0) lay2 gd2 (kN.mf m2 (by decide) (by decide)) hR hC (k := k) (by omega) (by rw [m2.fd (by decide)]; exact f4N) (by rw [m2.fd (by decide)]; exact f5N) (by rw [m2.fd (by decide)]; exact f6N)
            show Wp _ 194 83 [(2, ((116 : Nat) : Int))] [] K2 _ _ _
            refine g_aload_n lk_194_83 rfl ?_
            refine g_virtual (p := 116) (Qc := _) lk_194_84 rfl (Nat.le_of_ble_eq_true rfl) rfl rfl (lay2.on (by decide) rfl) (Nat.le_of_ble_eq_true rfl) (Nat.le_of_ble_eq_true rfl) (Nat.zero_le _) (Nat.zero_le _) (rn) ?_
            rintro _ K3 ⟨rfl, lay3, m3, kd3, no3⟩
            have z6 : pm_ct K3 116 6 = (k : Int) := by rw [m3.fd (by decide), m2.fd (by decide)]; exact f6N
            show Wp _ 194 87 [(2, ((116 : Nat) : Int))] [] K3 _ _ _
            refine g_aload_n lk_194_87 rfl ?_
            refine g_dup lk_194_88 rfl ?_
            refine m_getfield (u := []) (M := K3) lk_194_89 rfl (lay3.on (by decide) rfl) (v := (k : Int)) z6 ?_
            refine g_iconst lk_194_92 ?_
            refine g_iadd lk_194_93 ?_
            refine g_top (z := ((k : Int) + 1)) (z' := ((k + 1 : Nat) : Int)) (e1) ?_
            have lay1 : Lay (Mu [(116, pm_upd (pm_ct K3 116) 6 ((k + 1 : Nat) : Int))] K3) := lay3.muF (l := []) (a := 116) (k := 6) (z := ((k + 1 : Nat) : Int)) rfl rfl
            refine m_putfield (u := []) (u' := [(116, pm_upd (pm_ct K3 116) 6 ((k + 1 : Nat) : Int))]) (M := K3) lk_194_94 rfl (lay3.on (by decide) rfl) (fun h => absurd h (by decide)) rfl ?_
            refine g_return lk_194_97 ?_
            have m4 : MF [] [6] K3 (Mu [(116, pm_upd (pm_ct K3 116) 6 ((k + 1 : Nat) : Int))] K3) := MF.mu _ _ rfl (fun k hk => upd_ne (by intro q; rw [q] at hk; exact hk (by decide)))
            have mA : MF teS teK M (Mu [(116, pm_upd (pm_ct K3 116) 6 ((k + 1 : Nat) : Int))] K3) := ((m01.trans (m2.mono (fun a q => by cases q) (fun a q => by simp at q ⊢; omega))).trans (m3.mono (fun a q => by simp at q ⊢; omega) (fun a q => by simp at q ⊢; omega))).trans (m4.mono (fun a q => by cases q) (fun a q => by simp at q ⊢; omega))
            rw [hQ]
            refine ⟨rfl, lay1, mA, kd3.mf m4 (by decide) (by decide), ?_⟩
            cases hn : pN ch n R C 10 0 0 0 (lxt ch n (lxt ch n t.2.2).2.2) with
            | inl e =>
              have hp : pT0 ch n R C Ts t = .inl e := by unfold pT0; rw [if_neg a', if_pos b, if_neg c, hn]
              rw [hn] at no3
              rw [hp]
              exact BdM.mf no3 m4 (by decide) (by decide)
            | inr y =>
              obtain ⟨L, t1⟩ := y
              have hp : pT0 ch n R C Ts t = .inr ((twd ch (lxt ch n t.2.2), L), t1) := by unfold pT0; rw [if_neg a', if_pos b, if_neg c, hn]
              rw [hn] at no3
              obtain ⟨g3, c27, bl3, sg3⟩ := no3
              obtain ⟨o1, o2, o3⟩ := pN_ok n5 10 u2 hn
              rw [hp]
              have m2' : MF [119] [25, 26, 27, 28] K K2 := (mN.mono (fun a q => q) (fun a q => by cases q)).trans (m2.mono (fun a q => by cases q) (fun a q => q))
              have s3 : pm_ct K3 119 = pm_upd (pm_ct M 119) k ((nr 32 (twd ch (lxt ch n t.2.2)) : Nat) : Int) := by rw [m3.ct (by decide) (by decide), m2.ct (by decide) (by decide), c19, mK.ct (by decide) (by decide)]
              have q3 : ∀ a, a ∈ [127, 128, 129, 130] → pm_ct K2 a = pm_ct M a := fun a ha => by
                rw [m2'.ct (by simp at ha ⊢; omega) (by simp at ha; omega), mK.ct (by simp) (by simp at ha; omega)]
              refine ⟨GdM.mf g3 m4 (by decide) (by decide), TrsM.push hk hTs (by rw [Mu_ct]; rfl) (by rw [m4.ct (by decide) (by decide)]; exact s3) (u1.lt b.1) (by rw [m4.ct (by decide) (by decide), c27, q3 127 (by decide)]) (by show L.length ≤ 31; omega) (fun i hi => ?_) (fun i x hx => ?_)⟩
              · obtain ⟨y1, y2, y3⟩ := bl3 i hi
                rw [m4.ct (a := 127 + 1) (by decide) (by decide), m4.ct (a := 127 + 2) (by decide) (by decide), m4.ct (a := 127 + 3) (by decide) (by decide), y1, y2, y3]
                have w1 := q3 (127 + 1) (by decide)
                have w2 := q3 (127 + 2) (by decide)
                have w3 := q3 (127 + 3) (by decide)
                rw [w1, w2, w3]
                exact ⟨rfl, rfl, rfl⟩
              · rw [m4.ct (a := 127 + 1) (by decide) (by decide), m4.ct (a := 127 + 2) (by decide) (by decide), m4.ct (a := 127 + 3) (by decide) (by decide)]
                exact sg3 i x hx
          have w28' : pm_ct K 116 28 = ((nr 32 (twd ch (lxt ch n t.2.2)) : Nat) : Int) := w28
          obtain ⟨w, hw⟩ : ∃ w, w = nr 32 (twd ch (lxt ch n t.2.2)) := ⟨_, rfl⟩
          rw [← hw] at w28' k79
          refine g_aload_n lk_194_17 rfl ?_
          refine g_virtual (p := 116) (Qc := _) lk_194_18 rfl (Nat.le_of_ble_eq_true rfl) rfl rfl (lK.on (by decide) rfl) (Nat.le_of_ble_eq_true rfl) (Nat.le_of_ble_eq_true rfl) (Nat.zero_le _) (Nat.zero_le _) (ig) ?_
          rintro _ N1 ⟨rfl, hN1⟩
          rw [hN1]
          show Wp _ 194 21 [(2, ((116 : Nat) : Int))] [(0, 1)] K _ _ _
          refine g_if (t := 39) lk_194_21 rfl (by first | (unfold pm_inI; omega) | exact pm_and_in _ _ | exact pm_shr_in _ _ | exact pm_or_in _ _ | exact pm_xor_in _ _ | exact pm_shl_in _ _ | exact pm_cmp_in _ _ | exact pm_b8_in _ | (unfold pm_inI; split <;> omega)) (fun h => absurd h (show ¬ ((1 : Int) = (0 : Int)) by omega)) (fun _ => ?_)
          refine g_aload_n lk_194_24 rfl ?_
          refine g_virtual (p := 116) (Qc := _) lk_194_25 rfl (Nat.le_of_ble_eq_true rfl) rfl rfl (lK.on (by decide) rfl) (Nat.le_of_ble_eq_true rfl) (Nat.le_of_ble_eq_true rfl) (Nat.zero_le _) (Nat.zero_le _) (nm) ?_
          rintro _ N2 ⟨rfl, hN2⟩
          rw [hN2]
          show Wp _ 194 28 [(2, ((116 : Nat) : Int))] [(0, 1)] K _ _ _
          refine g_if (t := 39) lk_194_28 rfl (by first | (unfold pm_inI; omega) | exact pm_and_in _ _ | exact pm_shr_in _ _ | exact pm_or_in _ _ | exact pm_xor_in _ _ | exact pm_shl_in _ _ | exact pm_cmp_in _ _ | exact pm_b8_in _ | (unfold pm_inI; split <;> omega)) (fun _ => ?_) (fun h => absurd (show ¬ (1 : Int) = (0 : Int) by omega) h)
          refine g_aload_n lk_194_39 rfl ?_
          refine g_virtual (p := 116) (Qc := _) lk_194_40 rfl (Nat.le_of_ble_eq_true rfl) rfl rfl (lK.on (by decide) rfl) (Nat.le_of_ble_eq_true rfl) (Nat.le_of_ble_eq_true rfl) (Nat.zero_le _) (Nat.zero_le _) (ig) ?_
          rintro _ N3 ⟨rfl, hN3⟩
          rw [hN3]
          show Wp _ 194 43 [(2, ((116 : Nat) : Int))] [(0, 1)] K _ _ _
          refine g_if (t := 58) lk_194_43 rfl (by first | (unfold pm_inI; omega) | exact pm_and_in _ _ | exact pm_shr_in _ _ | exact pm_or_in _ _ | exact pm_xor_in _ _ | exact pm_shl_in _ _ | exact pm_cmp_in _ _ | exact pm_b8_in _ | (unfold pm_inI; split <;> omega)) (fun h => absurd h (show ¬ ((1 : Int) = (0 : Int)) by omega)) (fun _ => ?_)
          refine g_aload_n lk_194_46 rfl ?_
          refine g_virtual (p := 116) (Qc := _) lk_194_47 rfl (Nat.le_of_ble_eq_true rfl) rfl rfl (lK.on (by decide) rfl) (Nat.le_of_ble_eq_true rfl) (Nat.le_of_ble_eq_true rfl) (Nat.zero_le _) (Nat.zero_le _) (tl) ?_
          rintro _ N4 ⟨rfl, hN4⟩
          rw [hN4]
          show Wp _ 194 50 [(2, ((116 : Nat) : Int))] [(0, 0)] K _ _ _
          refine g_if (t := 58) lk_194_50 rfl (by first | (unfold pm_inI; omega) | exact pm_and_in _ _ | exact pm_shr_in _ _ | exact pm_or_in _ _ | exact pm_xor_in _ _ | exact pm_shl_in _ _ | exact pm_cmp_in _ _ | exact pm_b8_in _ | (unfold pm_inI; split <;> omega)) (fun _ => ?_) (fun h => absurd (show (0 : Int) = (0 : Int) by omega) h)
          refine g_aload_n lk_194_58 rfl ?_
          refine g_virtual (p := 116) (Qc := _) lk_194_59 rfl (Nat.le_of_ble_eq_true rfl) rfl rfl (lK.on (by decide) rfl) (Nat.le_of_ble_eq_true rfl) (Nat.le_of_ble_eq_true rfl) (Nat.zero_le _) (Nat.zero_le _) (ig) ?_
          rintro _ N5 ⟨rfl, hN5⟩
          rw [hN5]
          show Wp _ 194 62 [(2, ((116 : Nat) : Int))] [(0, 1)] K _ _ _
          refine g_if (t := 66) lk_194_62 rfl (by first | (unfold pm_inI; omega) | exact pm_and_in _ _ | exact pm_shr_in _ _ | exact pm_or_in _ _ | exact pm_xor_in _ _ | exact pm_shl_in _ _ | exact pm_cmp_in _ _ | exact pm_b8_in _ | (unfold pm_inI; split <;> omega)) (fun _ => ?_) (fun h => absurd (show ¬ (1 : Int) = (0 : Int) by omega) h)
          refine g_aload_n lk_194_66 rfl ?_
          refine g_getfield lk_194_67 rfl (lK.on (by decide) rfl) (v := ((119 : Nat) : Int)) (lK.rf rfl) ?_
          refine g_aload_n lk_194_70 rfl ?_
          refine m_getfield (u := []) (M := K) lk_194_71 rfl (lK.on (by decide) rfl) (v := (k : Int)) f6K ?_
          refine g_aload_n lk_194_74 rfl ?_
          refine m_getfield (u := []) (M := K) lk_194_75 rfl (lK.on (by decide) rfl) (v := (w : Int)) w28' ?_
          have lay6 : Lay (Mu [(119, pm_upd (pm_ct K 119) k (w : Int))] K) := lK.muA (l := []) (a := 119) (f := pm_upd (pm_ct K 119) k (w : Int)) rfl rfl
          refine m_iastore (u := []) (u' := [(119, pm_upd (pm_ct K 119) k (w : Int))]) (M := K) lk_194_78 (lK.ay (by decide) rfl) (by omega) (j := k) (by omega) rfl ?_
          exact k79 (Mu [(119, pm_upd (pm_ct K 119) k (w : Int))] K) lay6 (MF.mu _ _ rfl (fun _ _ => rfl)) (by rw [Mu_ct]; rfl)
    have go := hG.go lay (d := d + 2) (mc := 0) (ms := 0)
    refine g_aload_n lk_194_0 rfl ?_
    refine m_getfield (u := []) (M := M) lk_194_1 rfl (lay.on (by decide) rfl) (v := (k : Int)) f6 ?_
    refine g_iconst lk_194_4 ?_
    refine g_icmp (t := 13) lk_194_5 rfl (by first | (unfold pm_inI; omega) | exact pm_and_in _ _ | exact pm_shr_in _ _ | exact pm_or_in _ _ | exact pm_xor_in _ _ | exact pm_shl_in _ _ | exact pm_cmp_in _ _ | exact pm_b8_in _ | (unfold pm_inI; split <;> omega)) (by first | (unfold pm_inI; omega) | exact pm_and_in _ _ | exact pm_shr_in _ _ | exact pm_or_in _ _ | exact pm_xor_in _ _ | exact pm_shl_in _ _ | exact pm_cmp_in _ _ | exact pm_b8_in _ | (unfold pm_inI; split <;> omega)) (fun h1 => ?_) (fun h1 => ?_)
    · replace h1 : ¬ (k : Int) = 4 := h1
      refine g_aload_n lk_194_13 rfl ?_
      refine g_virtual (p := 116) (Qc := _) lk_194_14 rfl (Nat.le_of_ble_eq_true rfl) rfl rfl (lay.on (by decide) rfl) (Nat.le_of_ble_eq_true rfl) (Nat.le_of_ble_eq_true rfl) (Nat.zero_le _) (Nat.zero_le _) (go) ?_
      rintro _ K1 ⟨rfl, lay1, m1, tk1⟩
      show Wp _ 194 17 [(2, ((116 : Nat) : Int))] [] K1 _ _ _
      exact good K1 lay1 m1 (hG.next m1 tk1)
    · replace h1 : ¬ (¬ (k : Int) = 4) := h1
      omega
