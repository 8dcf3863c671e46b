/-! ===== a set: the model; nodes as mathematics ===== -/
set_option maxHeartbeats 4000000 in
theorem c_Mo_readSet {d mc ms : Nat} {M : pm_M} (lay : Lay M) {n : Nat} {ch : Nat → Nat} {t : Tok} (h : GdM M ch n t) {many : Nat} (hm : many ≤ 6) :
    pm_E (d + 2) 192 [(2, ((116 : Nat) : Int)), (0, (many : Int))] M mc ms (fun ρ M' => Lay M' ∧ MF [] rdK M M' ∧ ((∃ e, pSet ch many t = .inl e ∧ BdM M' e ∧ ∃ z : Int, ρ = some (0, z)) ∨ ∃ s : Nat, pSet ch many t = .inr s ∧ 1 ≤ s ∧ s < 64 ∧ ρ = some (0, (s : Int)) ∧ GdM M' ch n (lxt ch n t.2.2))) := by
  obtain ⟨Q, hQ⟩ : ∃ Q : pm_Q, Q = (fun ρ M' => Lay M' ∧ MF [] rdK M M' ∧ ((∃ e, pSet ch many t = .inl e ∧ BdM M' e ∧ ∃ z : Int, ρ = some (0, z)) ∨ ∃ s : Nat, pSet ch many t = .inr s ∧ 1 ≤ s ∧ s < 64 ∧ ρ = some (0, (s : Int)) ∧ GdM M' ch n (lxt ch n t.2.2))) := ⟨_, rfl⟩
  rw [← hQ]
  obtain ⟨g1, g2, g3, g4⟩ := id h
  obtain ⟨t4, k2, k3, k4, k5, k6⟩ := id g4
  have n5 := g1.1
  have g2' : pm_ct M 116 31 = ((0 : Nat) : Int) := g2
  have ig := c_Mo_isGood (d := d + 1) (mc := 0) (ms := 0) lay g2' (by omega)
  rw [if_pos rfl] at ig
  obtain ⟨f27, f25, f26, _⟩ := id g3
  have m31 : ∀ {A B : pm_M}, MF [] [31, 32] A B → MF [] rdK A B := fun m => m.mono (fun a q => q) (fun a q => by simp at q ⊢; omega)
  have m25 : ∀ {A B : pm_M}, MF [] [25, 26, 27, 28] A B → MF [] rdK A B := fun m => m.mono (fun a q => q) (fun a q => by simp at q ⊢; omega)
  obtain ⟨a, ha⟩ : ∃ a, a = t.2.1 := ⟨_, rfl⟩
  obtain ⟨b, hb⟩ : ∃ b, b = t.2.2 := ⟨_, rfl⟩
  -- a fault: the loop ends
  have bad : ∀ (e : Nat × Nat) (s k : Nat) (v4 : pm_V) (K1 : pm_M), pSet ch many t = .inl e → 1 ≤ e.1 ∧ e.1 ≤ 5 → k ≤ 600 → Lay K1 → MF [] [31, 32] M K1 → FtM K1 e → Wp (d + 2) 192 27 [(2, ((116 : Nat) : Int)), (0, (many : Int)), (0, (s : Int)), (0, (k : Int)), v4] [] K1 mc ms Q := by
    intro e s k v4 K1 hp he k6' lay1 m1 ft1
    have gb := goOn_bad (d := d) (mc := 0) (ms := 0) lay1 ft1.1 (by omega) (by omega)
    have ib := c_Mo_isGood (d := d + 1) (mc := 0) (ms := 0) lay1 ft1.1 (by omega)
    rw [if_neg (by omega)] at ib
    have f26' : pm_ct K1 116 26 = (b : Int) := by rw [m1.fd (by decide), hb]; exact f26
    refine g_iload_n lk_192_27 rfl ?_
    refine g_aload_n lk_192_28 rfl ?_
    refine m_getfield (u := []) (M := K1) lk_192_29 rfl (lay1.on (by decide) rfl) (v := (b : Int)) f26' ?_
    refine g_icmp (t := 92) lk_192_32 rfl (by first | (unfold pm_inI; omega) | exact pm_and_in _ _ | exact pm_shr_in _ _ | exact pm_or_in _ _ | exact pm_xor_in _ _ | exact pm_shl_in _ _ | exact pm_cmp_in _ _ | exact pm_b8_in _ | (unfold pm_inI; split <;> omega)) (by first | (unfold pm_inI; omega) | exact pm_and_in _ _ | exact pm_shr_in _ _ | exact pm_or_in _ _ | exact pm_xor_in _ _ | exact pm_shl_in _ _ | exact pm_cmp_in _ _ | exact pm_b8_in _ | (unfold pm_inI; split <;> omega)) (fun h1 => ?_) (fun h1 => ?_)
    · replace h1 : (b : Int) ≤ (k : Int) := h1
      refine g_aload_n lk_192_92 rfl ?_
      refine g_virtual (p := 116) (Qc := _) lk_192_93 rfl (Nat.le_of_ble_eq_true rfl) rfl rfl (lay1.on (by decide) rfl) (Nat.le_of_ble_eq_true rfl) (Nat.le_of_ble_eq_true rfl) (Nat.zero_le _) (Nat.zero_le _) (gb) ?_
      rintro _ K2 ⟨rfl, eK⟩
      rw [eK]
      show Wp _ 192 96 [(2, ((116 : Nat) : Int)), (0, (many : Int)), (0, (s : Int)), (0, (k : Int)), v4] [] K1 _ _ _
      refine g_iload_n lk_192_96 rfl ?_
      refine g_ireturn lk_192_97 (fun h => absurd h (by decide)) ?_
      rw [hQ]
      exact ⟨lay1, m31 m1, Or.inl ⟨e, hp, ⟨ft1, he⟩, _, rfl⟩⟩
    · replace h1 : ¬ ((b : Int) ≤ (k : Int)) := h1
      refine g_aload_n lk_192_35 rfl ?_
      refine g_virtual (p := 116) (Qc := _) lk_192_36 rfl (Nat.le_of_ble_eq_true rfl) rfl rfl (lay1.on (by decide) rfl) (Nat.le_of_ble_eq_true rfl) (Nat.le_of_ble_eq_true rfl) (Nat.zero_le _) (Nat.zero_le _) (ib) ?_
      rintro _ N2 ⟨rfl, hN2⟩
      rw [hN2]
      show Wp _ 192 39 [(2, ((116 : Nat) : Int)), (0, (many : Int)), (0, (s : Int)), (0, (k : Int)), v4] [(0, 0)] K1 _ _ _
      refine g_if (t := 92) lk_192_39 rfl (by first | (unfold pm_inI; omega) | exact pm_and_in _ _ | exact pm_shr_in _ _ | exact pm_or_in _ _ | exact pm_xor_in _ _ | exact pm_shl_in _ _ | exact pm_cmp_in _ _ | exact pm_b8_in _ | (unfold pm_inI; split <;> omega)) (fun _ => ?_) (fun h => absurd (show (0 : Int) = (0 : Int) by omega) h)
      refine g_aload_n lk_192_92 rfl ?_
      refine g_virtual (p := 116) (Qc := _) lk_192_93 rfl (Nat.le_of_ble_eq_true rfl) rfl rfl (lay1.on (by decide) rfl) (Nat.le_of_ble_eq_true rfl) (Nat.le_of_ble_eq_true rfl) (Nat.zero_le _) (Nat.zero_le _) (gb) ?_
      rintro _ K2 ⟨rfl, eK⟩
      rw [eK]
      show Wp _ 192 96 [(2, ((116 : Nat) : Int)), (0, (many : Int)), (0, (s : Int)), (0, (k : Int)), v4] [] K1 _ _ _
      refine g_iload_n lk_192_96 rfl ?_
      refine g_ireturn lk_192_97 (fun h => absurd h (by decide)) ?_
      rw [hQ]
      exact ⟨lay1, m31 m1, Or.inl ⟨e, hp, ⟨ft1, he⟩, _, rfl⟩⟩
  show Wp (d + 2) 192 0 [(2, ((116 : Nat) : Int)), (0, (many : Int)), (9, 0), (9, 0), (9, 0)] [] M mc ms Q
  rw [← ha] at f25
  rw [← hb] at f26
  by_cases e : t.1 = 2
  · have lt := k5 (by omega)
    have six := (k6 (Or.inr e)).1
    have f27' : pm_ct M 116 27 = 2 := by rw [f27, e]; rfl
    obtain ⟨z, hz⟩ : ∃ z, z = t.2.2 - t.2.1 := ⟨_, rfl⟩
    have ep : ∀ r, sc ch many z t.2.1 0 = r → pSet ch many t = (match r with | some s => .inr s | none => .inl (flt 4 t)) := fun r hr => by
      unfold pSet
      rw [if_pos e, ← hz, hr]
      cases r <;> rfl
    have fa4 := c_Mo_fails (d := d + 1) (mc := 0) (ms := 0) lay g3 t4 g2 (w := 4)
    have fr4 := flt_r (w := 4) (t := t) (by omega)
    have go := c_Mo_goOn (d := d) (mc := 0) (ms := 0) lay g1 g2 g3.2.2.1 g4.2.2.1
    have loop : ∀ (k i s : Nat) (v4 : pm_V), i + k = b → a ≤ i → s < 64 → sc ch many z t.2.1 0 = sc ch many k i s → Wp (d + 2) 192 27 [(2, ((116 : Nat) : Int)), (0, (many : Int)), (0, (s : Int)), (0, (i : Int)), v4] [] M mc ms Q := by
      intro k
      induction k with
      | zero =>
        intro i s v4 hi ai hs hsc
        have e2 := ep (some s) hsc
        obtain ⟨z1, hz1⟩ : ∃ q, z = q + 1 := ⟨z - 1, by omega⟩
        have sp := sc_pos (ch := ch) (many := many) hm (k := z1) (i := t.2.1) (v := s) (by rw [← hz1]; exact hsc)
        have ei : i = b := by omega
        rw [ei]
        refine g_iload_n lk_192_27 rfl ?_
        refine g_aload_n lk_192_28 rfl ?_
        refine m_getfield (u := []) (M := M) lk_192_29 rfl (lay.on (by decide) rfl) (v := (b : Int)) f26 ?_
        refine g_icmp (t := 92) lk_192_32 rfl (by first | (unfold pm_inI; omega) | exact pm_and_in _ _ | exact pm_shr_in _ _ | exact pm_or_in _ _ | exact pm_xor_in _ _ | exact pm_shl_in _ _ | exact pm_cmp_in _ _ | exact pm_b8_in _ | (unfold pm_inI; split <;> omega)) (by first | (unfold pm_inI; omega) | exact pm_and_in _ _ | exact pm_shr_in _ _ | exact pm_or_in _ _ | exact pm_xor_in _ _ | exact pm_shl_in _ _ | exact pm_cmp_in _ _ | exact pm_b8_in _ | (unfold pm_inI; split <;> omega)) (fun h1 => ?_) (fun h1 => ?_)
        · replace h1 : (b : Int) ≤ (b : Int) := h1
          refine g_aload_n lk_192_92 rfl ?_
          refine g_virtual (p := 116) (Qc := _) lk_192_93 rfl (Nat.le_of_ble_eq_true rfl) rfl rfl (lay.on (by decide) rfl) (Nat.le_of_ble_eq_true rfl) (Nat.le_of_ble_eq_true rfl) (Nat.zero_le _) (Nat.zero_le _) (go) ?_
          rintro _ K1 ⟨rfl, lay1, m1, k1⟩
          show Wp _ 192 96 [(2, ((116 : Nat) : Int)), (0, (many : Int)), (0, (s : Int)), (0, (b : Int)), v4] [] K1 _ _ _
          refine g_iload_n lk_192_96 rfl ?_
          refine g_ireturn lk_192_97 (fun h => absurd h (by decide)) ?_
          rw [hQ]
          exact ⟨lay1, m25 m1, Or.inr ⟨s, e2, sp, hs, rfl, h.next m1 k1⟩⟩
        · replace h1 : ¬ ((b : Int) ≤ (b : Int)) := h1
          omega
      | succ k ih =>
        intro i s v4 hi ai hs hsc
        replace hsc : sc ch many z t.2.1 0 = if 48 ≤ ch i ∧ ch i - 48 < many ∧ s < 2 ^ (ch i - 48) then sc ch many k (i + 1) (s + 2 ^ (ch i - 48)) else none := hsc
        have ba := c_Mo_byteAt (d := d + 1) (mc := 0) (ms := 0) lay g1 (k := i) (by omega)
        have cr := chv_r g1 i
        have rc := run_ch g4 e (i := i) (by omega) (by omega)
        have cv : chv ch n i = (ch i : Int) := by omega
        rw [cv] at ba
        obtain ⟨c, hc⟩ : ∃ c, c = ch i := ⟨_, rfl⟩
        rw [← hc] at ba rc hsc
        have bd := fun (q : sc ch many z t.2.1 0 = none) (k : Nat) (v4 : pm_V) (K1 : pm_M) (hk : k ≤ 600) => bad (flt 4 t) s k v4 K1 (ep none q) fr4 hk
        have ii := fun (M : pm_M) => c_Mo_in (d := d + 1) (mc := 0) (ms := 0) (M := M) (v := (c : Int) - 48) (l := 0) (h := (many : Int) - 1) (by unfold pm_inI; omega) (by unfold pm_inI; omega) (by unfold pm_inI; omega)
        have ei1 : (i : Int) + 1 = ((i + 1 : Nat) : Int) := by omega
        by_cases g1' : 48 ≤ c ∧ c - 48 < many
        · obtain ⟨v, hv⟩ : ∃ v, v = c - 48 := ⟨_, rfl⟩
          rw [← hv] at hsc
          have ev : (c : Int) - 48 = (v : Int) := by omega
          rw [ev, if_pos (by omega)] at ii
          obtain ⟨s1, s2, s3, s4⟩ := shr_tab ⟨s, hs⟩ ⟨v, by omega⟩
          replace s1 : pm_shr (s : Int) (v : Int) = 0 ↔ s < 2 ^ v := s1
          replace s2 : 0 ≤ pm_shr (s : Int) (v : Int) := s2
          replace s3 : pm_shr (s : Int) (v : Int) ≤ 64 := s3
          replace s4 : s < 2 ^ v → pm_or (s : Int) (pm_shl 1 (v : Int)) = ((s + 2 ^ v : Nat) : Int) := s4
          have p2 : 2 ^ v ≤ 2 ^ 5 := Nat.pow_le_pow_right (by omega) (by omega)
          obtain ⟨y, hy⟩ : ∃ y, y = pm_shr (s : Int) (v : Int) := ⟨_, rfl⟩
          rw [← hy] at s1 s2 s3
          by_cases g2s : s < 2 ^ v
          · rw [if_pos ⟨by omega, by omega, g2s⟩] at hsc
            have y0 := s1.mpr g2s
            have nx := ih (i + 1) (s + 2 ^ v) (0, (v : Int)) (by omega) (by omega) (by omega) hsc
            rw [y0] at hy
            have s4' := s4 g2s
            clear ih
            refine g_iload_n lk_192_27 rfl ?_
            refine g_aload_n lk_192_28 rfl ?_
            refine m_getfield (u := []) (M := M) lk_192_29 rfl (lay.on (by decide) rfl) (v := (b : Int)) f26 ?_
            refine g_icmp (t := 92) lk_192_32 rfl (by first | (unfold pm_inI; omega) | exact pm_and_in _ _ | exact pm_shr_in _ _ | exact pm_or_in _ _ | exact pm_xor_in _ _ | exact pm_shl_in _ _ | exact pm_cmp_in _ _ | exact pm_b8_in _ | (unfold pm_inI; split <;> omega)) (by first | (unfold pm_inI; omega) | exact pm_and_in _ _ | exact pm_shr_in _ _ | exact pm_or_in _ _ | exact pm_xor_in _ _ | exact pm_shl_in _ _ | exact pm_cmp_in _ _ | exact pm_b8_in _ | (unfold pm_inI; split <;> omega)) (fun h1 => ?_) (fun h1 => ?_)
            · replace h1 : (b : Int) ≤ (i : Int) := h1
              omega
            · replace h1 : ¬ ((b : Int) ≤ (i : Int)) := h1
              refine g_aload_n lk_192_35 rfl ?_
              refine g_virtual (p := 116) (Qc := _) lk_192_36 rfl (Nat.le_of_ble_eq_true rfl) rfl rfl (lay.on (by decide) rfl) (Nat.le_of_ble_eq_true rfl) (Nat.le_of_ble_eq_true rfl) (Nat.zero_le _) (Nat.zero_le _) (ig) ?_
              rintro _ N2 ⟨rfl, hN2⟩
              rw [hN2]
              show Wp _ 192 39 [(2, ((116 : Nat) : Int)), (0, (many : Int)), (0, (s : Int)), (0, (i : Int)), v4] [(0, 1)] M _ _ _
              refine g_if (t := 92) lk_192_39 rfl (by first | (unfold pm_inI; omega) | exact pm_and_in _ _ | exact pm_shr_in _ _ | exact pm_or_in _ _ | exact pm_xor_in _ _ | exact pm_shl_in _ _ | exact pm_cmp_in _ _ | exact pm_b8_in _ | (unfold pm_inI; split <;> omega)) (fun h => absurd h (show ¬ ((1 : Int) = (0 : Int)) by omega)) (fun _ => ?_)
              refine g_aload_n lk_192_42 rfl ?_
              refine g_iload_n lk_192_43 rfl ?_
              refine g_virtual (p := 116) (Qc := _) lk_192_44 rfl (Nat.le_of_ble_eq_true rfl) rfl rfl (lay.on (by decide) rfl) (Nat.le_of_ble_eq_true rfl) (Nat.le_of_ble_eq_true rfl) (Nat.zero_le _) (Nat.zero_le _) (ba) ?_
              rintro _ N3 ⟨rfl, hN3⟩
              rw [hN3]
              show Wp _ 192 47 [(2, ((116 : Nat) : Int)), (0, (many : Int)), (0, (s : Int)), (0, (i : Int)), v4] [(0, (c : Int))] M _ _ _
              refine g_bipush lk_192_47 ?_
              refine g_isub lk_192_49 ?_
              refine g_top (z := ((c : Int) - 48)) (z' := (v : Int)) (ev) ?_
              refine g_istore (ls' := [(2, ((116 : Nat) : Int)), (0, (many : Int)), (0, (s : Int)), (0, (i : Int)), (0, (v : Int))]) lk_192_50 rfl rfl ?_
              refine g_iload lk_192_52 rfl ?_
              refine g_iconst lk_192_54 ?_
              refine g_iload_n lk_192_55 rfl ?_
              refine g_iconst lk_192_56 ?_
              refine g_isub lk_192_57 ?_
              refine g_static (Qc := _) lk_192_58 (by decide) rfl (Nat.le_of_ble_eq_true rfl) rfl rfl (Nat.le_of_ble_eq_true rfl) (Nat.le_of_ble_eq_true rfl) (Nat.zero_le _) (Nat.zero_le _) (ii _) ?_
              rintro _ N4 ⟨rfl, hN4⟩
              rw [hN4]
              show Wp _ 192 61 [(2, ((116 : Nat) : Int)), (0, (many : Int)), (0, (s : Int)), (0, (i : Int)), (0, (v : Int))] [(0, 1)] M _ _ _
              refine g_if (t := 71) lk_192_61 rfl (by first | (unfold pm_inI; omega) | exact pm_and_in _ _ | exact pm_shr_in _ _ | exact pm_or_in _ _ | exact pm_xor_in _ _ | exact pm_shl_in _ _ | exact pm_cmp_in _ _ | exact pm_b8_in _ | (unfold pm_inI; split <;> omega)) (fun h => absurd h (show ¬ ((1 : Int) = (0 : Int)) by omega)) (fun _ => ?_)
              refine g_iload_n lk_192_64 rfl ?_
              refine g_iload lk_192_65 rfl ?_
              refine g_ishr lk_192_67 ?_
              refine g_top (z := (pm_shr (s : Int) (v : Int))) (z' := 0) (hy.symm) ?_
              refine g_if (t := 79) lk_192_68 rfl (by first | (unfold pm_inI; omega) | exact pm_and_in _ _ | exact pm_shr_in _ _ | exact pm_or_in _ _ | exact pm_xor_in _ _ | exact pm_shl_in _ _ | exact pm_cmp_in _ _ | exact pm_b8_in _ | (unfold pm_inI; split <;> omega)) (fun _ => ?_) (fun h => absurd (show (0 : Int) = (0 : Int) by omega) h)
              refine g_iload_n lk_192_79 rfl ?_
              refine g_iconst lk_192_80 ?_
              refine g_iload lk_192_81 rfl ?_
              refine g_ishl lk_192_83 ?_
              refine g_ior lk_192_84 ?_
              refine g_top (z := (pm_or (s : Int) (pm_shl 1 (v : Int)))) (z' := ((s + 2 ^ v : Nat) : Int)) (s4') ?_
              refine g_istore_n (ls' := [(2, ((116 : Nat) : Int)), (0, (many : Int)), (0, ((s + 2 ^ v : Nat) : Int)), (0, (i : Int)), (0, (v : Int))]) lk_192_85 rfl rfl ?_
              refine g_iinc (ls' := [(2, ((116 : Nat) : Int)), (0, (many : Int)), (0, ((s + 2 ^ v : Nat) : Int)), (0, ((i : Int) + 1)), (0, (v : Int))]) lk_192_86 rfl rfl rfl ?_
              refine g_goto (t := 27) lk_192_89 rfl ?_
              exact nx
          · rw [if_neg (fun q => g2s q.2.2)] at hsc
            have y0 : ¬ y = 0 := fun q => g2s (s1.mp q)
            clear ih
            refine g_iload_n lk_192_27 rfl ?_
            refine g_aload_n lk_192_28 rfl ?_
            refine m_getfield (u := []) (M := M) lk_192_29 rfl (lay.on (by decide) rfl) (v := (b : Int)) f26 ?_
            refine g_icmp (t := 92) lk_192_32 rfl (by first | (unfold pm_inI; omega) | exact pm_and_in _ _ | exact pm_shr_in _ _ | exact pm_or_in _ _ | exact pm_xor_in _ _ | exact pm_shl_in _ _ | exact pm_cmp_in _ _ | exact pm_b8_in _ | (unfold pm_inI; split <;> omega)) (by first | (unfold pm_inI; omega) | exact pm_and_in _ _ | exact pm_shr_in _ _ | exact pm_or_in _ _ | exact pm_xor_in _ _ | exact pm_shl_in _ _ | exact pm_cmp_in _ _ | exact pm_b8_in _ | (unfold pm_inI; split <;> omega)) (fun h1 => ?_) (fun h1 => ?_)
            · replace h1 : (b : Int) ≤ (i : Int) := h1
              omega
            · replace h1 : ¬ ((b : Int) ≤ (i : Int)) := h1
              refine g_aload_n lk_192_35 rfl ?_
              refine g_virtual (p := 116) (Qc := _) lk_192_36 rfl (Nat.le_of_ble_eq_true rfl) rfl rfl (lay.on (by decide) rfl) (Nat.le_of_ble_eq_true rfl) (Nat.le_of_ble_eq_true rfl) (Nat.zero_le _) (Nat.zero_le _) (ig) ?_
              rintro _ N2 ⟨rfl, hN2⟩
              rw [hN2]
              show Wp _ 192 39 [(2, ((116 : Nat) : Int)), (0, (many : Int)), (0, (s : Int)), (0, (i : Int)), v4] [(0, 1)] M _ _ _
              refine g_if (t := 92) lk_192_39 rfl (by first | (unfold pm_inI; omega) | exact pm_and_in _ _ | exact pm_shr_in _ _ | exact pm_or_in _ _ | exact pm_xor_in _ _ | exact pm_shl_in _ _ | exact pm_cmp_in _ _ | exact pm_b8_in _ | (unfold pm_inI; split <;> omega)) (fun h => absurd h (show ¬ ((1 : Int) = (0 : Int)) by omega)) (fun _ => ?_)
              refine g_aload_n lk_192_42 rfl ?_
              refine g_iload_n lk_192_43 rfl ?_
              refine g_virtual (p := 116) (Qc := _) lk_192_44 rfl (Nat.le_of_ble_eq_true rfl) rfl rfl (lay.on (by decide) rfl) (Nat.le_of_ble_eq_true rfl) (Nat.le_of_ble_eq_true rfl) (Nat.zero_le _) (Nat.zero_le _) (ba) ?_
              rintro _ N3 ⟨rfl, hN3⟩
              rw [hN3]
              show Wp _ 192 47 [(2, ((116 : Nat) : Int)), (0, (many : Int)), (0, (s : Int)), (0, (i : Int)), v4] [(0, (c : Int))] M _ _ _
              refine g_bipush lk_192_47 ?_
              refine g_isub lk_192_49 ?_
              refine g_top (z := ((c : Int) - 48)) (z' := (v : Int)) (ev) ?_
              refine g_istore (ls' := [(2, ((116 : Nat) : Int)), (0, (many : Int)), (0, (s : Int)), (0, (i : Int)), (0, (v : Int))]) lk_192_50 rfl rfl ?_
              refine g_iload lk_192_52 rfl ?_
              refine g_iconst lk_192_54 ?_
              refine g_iload_n lk_192_55 rfl ?_
              refine g_iconst lk_192_56 ?_
              refine g_isub lk_192_57 ?_
              refine g_static (Qc := _) lk_192_58 (by decide) rfl (Nat.le_of_ble_eq_true rfl) rfl rfl (Nat.le_of_ble_eq_true rfl) (Nat.le_of_ble_eq_true rfl) (Nat.zero_le _) (Nat.zero_le _) (ii _) ?_
              rintro _ N4 ⟨rfl, hN4⟩
              rw [hN4]
              show Wp _ 192 61 [(2, ((116 : Nat) : Int)), (0, (many : Int)), (0, (s : Int)), (0, (i : Int)), (0, (v : Int))] [(0, 1)] M _ _ _
              refine g_if (t := 71) lk_192_61 rfl (by first | (unfold pm_inI; omega) | exact pm_and_in _ _ | exact pm_shr_in _ _ | exact pm_or_in _ _ | exact pm_xor_in _ _ | exact pm_shl_in _ _ | exact pm_cmp_in _ _ | exact pm_b8_in _ | (unfold pm_inI; split <;> omega)) (fun h => absurd h (show ¬ ((1 : Int) = (0 : Int)) by omega)) (fun _ => ?_)
              refine g_iload_n lk_192_64 rfl ?_
              refine g_iload lk_192_65 rfl ?_
              refine g_ishr lk_192_67 ?_
              refine g_top (z := (pm_shr (s : Int) (v : Int))) (z' := y) (hy.symm) ?_
              refine g_if (t := 79) lk_192_68 rfl (by first | (unfold pm_inI; omega) | exact pm_and_in _ _ | exact pm_shr_in _ _ | exact pm_or_in _ _ | exact pm_xor_in _ _ | exact pm_shl_in _ _ | exact pm_cmp_in _ _ | exact pm_b8_in _ | (unfold pm_inI; split <;> omega)) (fun h5 => ?_) (fun h5 => ?_)
              · replace h5 : y = 0 := h5
                omega
              · replace h5 : ¬ (y = 0) := h5
                refine g_aload_n lk_192_71 rfl ?_
                refine g_iconst lk_192_72 ?_
                refine g_virtual (p := 116) (Qc := _) lk_192_73 rfl (Nat.le_of_ble_eq_true rfl) rfl rfl (lay.on (by decide) rfl) (Nat.le_of_ble_eq_true rfl) (Nat.le_of_ble_eq_true rfl) (Nat.zero_le _) (Nat.zero_le _) (fa4) ?_
                rintro _ K1 ⟨rfl, lay1, m1, ft1⟩
                show Wp _ 192 76 [(2, ((116 : Nat) : Int)), (0, (many : Int)), (0, (s : Int)), (0, (i : Int)), (0, (v : Int))] [] K1 _ _ _
                refine g_goto (t := 86) lk_192_76 rfl ?_
                refine g_iinc (ls' := [(2, ((116 : Nat) : Int)), (0, (many : Int)), (0, (s : Int)), (0, ((i : Int) + 1)), (0, (v : Int))]) lk_192_86 rfl rfl rfl ?_
                refine g_goto (t := 27) lk_192_89 rfl ?_
                exact bd hsc (i + 1) _ K1 (by omega) lay1 m1 ft1
        · rw [if_neg (fun q => g1' ⟨q.1, q.2.1⟩)] at hsc
          obtain ⟨w, hw⟩ : ∃ w : Int, w = (c : Int) - 48 := ⟨_, rfl⟩
          rw [← hw, if_neg (by omega)] at ii
          clear ih
          refine g_iload_n lk_192_27 rfl ?_
          refine g_aload_n lk_192_28 rfl ?_
          refine m_getfield (u := []) (M := M) lk_192_29 rfl (lay.on (by decide) rfl) (v := (b : Int)) f26 ?_
          refine g_icmp (t := 92) lk_192_32 rfl (by first | (unfold pm_inI; omega) | exact pm_and_in _ _ | exact pm_shr_in _ _ | exact pm_or_in _ _ | exact pm_xor_in _ _ | exact pm_shl_in _ _ | exact pm_cmp_in _ _ | exact pm_b8_in _ | (unfold pm_inI; split <;> omega)) (by first | (unfold pm_inI; omega) | exact pm_and_in _ _ | exact pm_shr_in _ _ | exact pm_or_in _ _ | exact pm_xor_in _ _ | exact pm_shl_in _ _ | exact pm_cmp_in _ _ | exact pm_b8_in _ | (unfold pm_inI; split <;> omega)) (fun h1 => ?_) (fun h1 => ?_)
          · replace h1 : (b : Int) ≤ (i : Int) := h1
            omega
          · replace h1 : ¬ ((b : Int) ≤ (i : Int)) := h1
            refine g_aload_n lk_192_35 rfl ?_
            refine g_virtual (p := 116) (Qc := _) lk_192_36 rfl (Nat.le_of_ble_eq_true rfl) rfl rfl (lay.on (by decide) rfl) (Nat.le_of_ble_eq_true rfl) (Nat.le_of_ble_eq_true rfl) (Nat.zero_le _) (Nat.zero_le _) (ig) ?_
            rintro _ N2 ⟨rfl, hN2⟩
            rw [hN2]
            show Wp _ 192 39 [(2, ((116 : Nat) : Int)), (0, (many : Int)), (0, (s : Int)), (0, (i : Int)), v4] [(0, 1)] M _ _ _
            refine g_if (t := 92) lk_192_39 rfl (by first | (unfold pm_inI; omega) | exact pm_and_in _ _ | exact pm_shr_in _ _ | exact pm_or_in _ _ | exact pm_xor_in _ _ | exact pm_shl_in _ _ | exact pm_cmp_in _ _ | exact pm_b8_in _ | (unfold pm_inI; split <;> omega)) (fun h => absurd h (show ¬ ((1 : Int) = (0 : Int)) by omega)) (fun _ => ?_)
            refine g_aload_n lk_192_42 rfl ?_
            refine g_iload_n lk_192_43 rfl ?_
            refine g_virtual (p := 116) (Qc := _) lk_192_44 rfl (Nat.le_of_ble_eq_true rfl) rfl rfl (lay.on (by decide) rfl) (Nat.le_of_ble_eq_true rfl) (Nat.le_of_ble_eq_true rfl) (Nat.zero_le _) (Nat.zero_le _) (ba) ?_
            rintro _ N3 ⟨rfl, hN3⟩
            rw [hN3]
            show Wp _ 192 47 [(2, ((116 : Nat) : Int)), (0, (many : Int)), (0, (s : Int)), (0, (i : Int)), v4] [(0, (c : Int))] M _ _ _
            refine g_bipush lk_192_47 ?_
            refine g_isub lk_192_49 ?_
            refine g_top (z := ((c : Int) - 48)) (z' := w) (hw.symm) ?_
            refine g_istore (ls' := [(2, ((116 : Nat) : Int)), (0, (many : Int)), (0, (s : Int)), (0, (i : Int)), (0, w)]) lk_192_50 rfl rfl ?_
            refine g_iload lk_192_52 rfl ?_
            refine g_iconst lk_192_54 ?_
            refine g_iload_n lk_192_55 rfl ?_
            refine g_iconst lk_192_56 ?_
            refine g_isub lk_192_57 ?_
            refine g_static (Qc := _) lk_192_58 (by decide) rfl (Nat.le_of_ble_eq_true rfl) rfl rfl (Nat.le_of_ble_eq_true rfl) (Nat.le_of_ble_eq_true rfl) (Nat.zero_le _) (Nat.zero_le _) (ii _) ?_
            rintro _ N4 ⟨rfl, hN4⟩
            rw [hN4]
            show Wp _ 192 61 [(2, ((116 : Nat) : Int)), (0, (many : Int)), (0, (s : Int)), (0, (i : Int)), (0, w)] [(0, 0)] M _ _ _
            refine g_if (t := 71) lk_192_61 rfl (by first | (unfold pm_inI; omega) | exact pm_and_in _ _ | exact pm_shr_in _ _ | exact pm_or_in _ _ | exact pm_xor_in _ _ | exact pm_shl_in _ _ | exact pm_cmp_in _ _ | exact pm_b8_in _ | (unfold pm_inI; split <;> omega)) (fun _ => ?_) (fun h => absurd (show (0 : Int) = (0 : Int) by omega) h)
            refine g_aload_n lk_192_71 rfl ?_
            refine g_iconst lk_192_72 ?_
            refine g_virtual (p := 116) (Qc := _) lk_192_73 rfl (Nat.le_of_ble_eq_true rfl) rfl rfl (lay.on (by decide) rfl) (Nat.le_of_ble_eq_true rfl) (Nat.le_of_ble_eq_true rfl) (Nat.zero_le _) (Nat.zero_le _) (fa4) ?_
            rintro _ K1 ⟨rfl, lay1, m1, ft1⟩
            show Wp _ 192 76 [(2, ((116 : Nat) : Int)), (0, (many : Int)), (0, (s : Int)), (0, (i : Int)), (0, w)] [] K1 _ _ _
            refine g_goto (t := 86) lk_192_76 rfl ?_
            refine g_iinc (ls' := [(2, ((116 : Nat) : Int)), (0, (many : Int)), (0, (s : Int)), (0, ((i : Int) + 1)), (0, w)]) lk_192_86 rfl rfl rfl ?_
            refine g_goto (t := 27) lk_192_89 rfl ?_
            exact bd hsc (i + 1) _ K1 (by omega) lay1 m1 ft1
    refine g_iconst lk_192_0 ?_
    refine g_istore_n (ls' := [(2, ((116 : Nat) : Int)), (0, (many : Int)), (0, 0), (9, 0), (9, 0)]) lk_192_1 rfl rfl ?_
    refine g_aload_n lk_192_2 rfl ?_
    refine g_virtual (p := 116) (Qc := _) lk_192_3 rfl (Nat.le_of_ble_eq_true rfl) rfl rfl (lay.on (by decide) rfl) (Nat.le_of_ble_eq_true rfl) (Nat.le_of_ble_eq_true rfl) (Nat.zero_le _) (Nat.zero_le _) (ig) ?_
    rintro _ N1 ⟨rfl, hN1⟩
    rw [hN1]
    show Wp _ 192 6 [(2, ((116 : Nat) : Int)), (0, (many : Int)), (0, 0), (9, 0), (9, 0)] [(0, 1)] M _ _ _
    refine g_if (t := 22) lk_192_6 rfl (by first | (unfold pm_inI; omega) | exact pm_and_in _ _ | exact pm_shr_in _ _ | exact pm_or_in _ _ | exact pm_xor_in _ _ | exact pm_shl_in _ _ | exact pm_cmp_in _ _ | exact pm_b8_in _ | (unfold pm_inI; split <;> omega)) (fun h => absurd h (show ¬ ((1 : Int) = (0 : Int)) by omega)) (fun _ => ?_)
    refine g_aload_n lk_192_9 rfl ?_
    refine m_getfield (u := []) (M := M) lk_192_10 rfl (lay.on (by decide) rfl) (v := 2) f27' ?_
    refine g_iconst lk_192_13 ?_
    refine g_icmp (t := 22) lk_192_14 rfl (by first | (unfold pm_inI; omega) | exact pm_and_in _ _ | exact pm_shr_in _ _ | exact pm_or_in _ _ | exact pm_xor_in _ _ | exact pm_shl_in _ _ | exact pm_cmp_in _ _ | exact pm_b8_in _ | (unfold pm_inI; split <;> omega)) (by first | (unfold pm_inI; omega) | exact pm_and_in _ _ | exact pm_shr_in _ _ | exact pm_or_in _ _ | exact pm_xor_in _ _ | exact pm_shl_in _ _ | exact pm_cmp_in _ _ | exact pm_b8_in _ | (unfold pm_inI; split <;> omega)) (fun _ => ?_) (fun h => absurd (show (2 : Int) = (2 : Int) by omega) h)
    refine g_aload_n lk_192_22 rfl ?_
    refine m_getfield (u := []) (M := M) lk_192_23 rfl (lay.on (by decide) rfl) (v := (a : Int)) f25 ?_
    refine g_istore_n (ls' := [(2, ((116 : Nat) : Int)), (0, (many : Int)), (0, 0), (0, (a : Int)), (9, 0)]) lk_192_26 rfl rfl ?_
    exact loop (b - a) a 0 _ (by omega) (Nat.le_refl _) (by omega) (by rw [hz, ha, hb])
  · have hp : pSet ch many t = .inl (flt 2 t) := by unfold pSet; rw [if_neg e]
    have fa2 := c_Mo_fails (d := d + 1) (mc := 0) (ms := 0) lay g3 t4 g2 (w := 2)
    have fr2 := flt_r (w := 2) (t := t) (by omega)
    have bd := fun (k : Nat) (v4 : pm_V) (K1 : pm_M) (hk : k ≤ 600) => bad (flt 2 t) 0 k v4 K1 hp fr2 hk
    obtain ⟨K, hk⟩ : ∃ K, K = t.1 := ⟨_, rfl⟩
    rw [← hk] at f27 t4 e
    have k22 : ∀ K1 : pm_M, Lay K1 → MF [] [31, 32] M K1 → FtM K1 (flt 2 t) → Wp (d + 2) 192 22 [(2, ((116 : Nat) : Int)), (0, (many : Int)), (0, 0), (9, 0), (9, 0)] [] K1 mc ms Q := by
      intro K1 lay1 m1 ft1
      have f25' : pm_ct K1 116 25 = (a : Int) := by rw [m1.fd (by decide)]; exact f25
      refine g_aload_n lk_192_22 rfl ?_
      refine m_getfield (u := []) (M := K1) lk_192_23 rfl (lay1.on (by decide) rfl) (v := (a : Int)) f25' ?_
      refine g_istore_n (ls' := [(2, ((116 : Nat) : Int)), (0, (many : Int)), (0, 0), (0, (a : Int)), (9, 0)]) lk_192_26 rfl rfl ?_
      exact bd a _ K1 (by omega) lay1 m1 ft1
    refine g_iconst lk_192_0 ?_
    refine g_istore_n (ls' := [(2, ((116 : Nat) : Int)), (0, (many : Int)), (0, 0), (9, 0), (9, 0)]) lk_192_1 rfl rfl ?_
    refine g_aload_n lk_192_2 rfl ?_
    refine g_virtual (p := 116) (Qc := _) lk_192_3 rfl (Nat.le_of_ble_eq_true rfl) rfl rfl (lay.on (by decide) rfl) (Nat.le_of_ble_eq_true rfl) (Nat.le_of_ble_eq_true rfl) (Nat.zero_le _) (Nat.zero_le _) (ig) ?_
    rintro _ N1 ⟨rfl, hN1⟩
    rw [hN1]
    show Wp _ 192 6 [(2, ((116 : Nat) : Int)), (0, (many : Int)), (0, 0), (9, 0), (9, 0)] [(0, 1)] M _ _ _
    refine g_if (t := 22) lk_192_6 rfl (by first | (unfold pm_inI; omega) | exact pm_and_in _ _ | exact pm_shr_in _ _ | exact pm_or_in _ _ | exact pm_xor_in _ _ | exact pm_shl_in _ _ | exact pm_cmp_in _ _ | exact pm_b8_in _ | (unfold pm_inI; split <;> omega)) (fun h => absurd h (show ¬ ((1 : Int) = (0 : Int)) by omega)) (fun _ => ?_)
    refine g_aload_n lk_192_9 rfl ?_
    refine m_getfield (u := []) (M := M) lk_192_10 rfl (lay.on (by decide) rfl) (v := (K : Int)) f27 ?_
    refine g_iconst lk_192_13 ?_
    refine g_icmp (t := 22) lk_192_14 rfl (by first | (unfold pm_inI; omega) | exact pm_and_in _ _ | exact pm_shr_in _ _ | exact pm_or_in _ _ | exact pm_xor_in _ _ | exact pm_shl_in _ _ | exact pm_cmp_in _ _ | exact pm_b8_in _ | (unfold pm_inI; split <;> omega)) (by first | (unfold pm_inI; omega) | exact pm_and_in _ _ | exact pm_shr_in _ _ | exact pm_or_in _ _ | exact pm_xor_in _ _ | exact pm_shl_in _ _ | exact pm_cmp_in _ _ | exact pm_b8_in _ | (unfold pm_inI; split <;> omega)) (fun h2 => ?_) (fun h2 => ?_)
    · replace h2 : (K : Int) = 2 := h2
      omega
    · replace h2 : ¬ ((K : Int) = 2) := h2
      refine g_aload_n lk_192_17 rfl ?_
      refine g_iconst lk_192_18 ?_
      refine g_virtual (p := 116) (Qc := _) lk_192_19 rfl (Nat.le_of_ble_eq_true rfl) rfl rfl (lay.on (by decide) rfl) (Nat.le_of_ble_eq_true rfl) (Nat.le_of_ble_eq_true rfl) (Nat.zero_le _) (Nat.zero_le _) (fa2) ?_
      rintro _ K1 ⟨rfl, lay1, m1, ft1⟩
      show Wp _ 192 22 [(2, ((116 : Nat) : Int)), (0, (many : Int)), (0, 0), (9, 0), (9, 0)] [] K1 _ _ _
      exact k22 K1 lay1 m1 ft1
/-- a node with its depth and the one above it -/
abbrev Ne : Type := Nd × Nat × Nat
def pN (ch : Nat → Nat) (n R C : Nat) : Nat → Nat → Nat → Nat → Tok → Sum (Nat × Nat) (List Ne × Tok)
  | 0, _, _, _, t => .inl (flt 5 t)
  | f + 1, d, c, q, t =>
    if isNd ch t then
      (if 9 ≤ d ∨ 31 ≤ c then .inl (flt 5 t)
      else if twd ch t = wLeaf then
        (match pNum ch 0 (lxt ch n t.2.2) with
        | .inl e => .inl e
        | .inr v => .inr ([((0, v, -1), d, q)], lxt ch n (lxt ch n t.2.2).2.2))
      else
        (match pSet ch (if twd ch t = wdA then R else C) (lxt ch n t.2.2) with
        | .inl e => .inl e
        | .inr s =>
          (match pN ch n R C f (d + 1) (c + 1) c (lxt ch n (lxt ch n t.2.2).2.2) with
          | .inl e => .inl e
          | .inr (L1, t1) =>
            (match pN ch n R C f (d + 1) (c + 1 + L1.length) c t1 with
            | .inl e => .inl e
            | .inr (L2, t2) => .inr (((if twd ch t = wdA then 1 else 2, s, ((c + 1 + L1.length : Nat) : Int)), d, q) :: (L1 ++ L2), t2)))))
    else .inl (flt 2 t)
