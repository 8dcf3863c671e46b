/-! ===== the model's sets that fool: its calls ===== -/
def NmAt (M : pm_M) (X : List Nat) : Prop := ∀ j x, X[j]? = some x → pm_ct M 138 j = (nm x : Int)
def Look (M : pm_M) (V : List (List Nat)) : Prop := (∃ X, BestV V X ∧ X.length ≤ 6 ∧ (∀ x, x ∈ X → x < 36) ∧ pm_ct M 116 43 = (X.length : Int) ∧ NmAt M X) ∧ ∀ n, n ≤ 6 → pm_ct M 139 n = (cnt V n : Int)
theorem Look.of {M N : pm_M} {V : List (List Nat)} (h : Look M V) (h1 : pm_ct N 116 43 = pm_ct M 116 43) (h2 : pm_ct N 138 = pm_ct M 138) (h3 : pm_ct N 139 = pm_ct M 139) : Look N V := by
  unfold Look NmAt; rw [h1, h2, h3]; exact h
theorem c_Mo_isOther {d mc ms : Nat} {M : pm_M} (lay : Lay M) {T : Tab} (hT : TabOK T) (hM : MoAt M T) {r c v : Nat} (hr : r < 6) (hc : c < 6) (hv : v < 11) :
    pm_E (d + 1) 219 [(2, ((116 : Nat) : Int)), (0, (r : Int)), (0, (c : Int)), (0, (v : Int))] M mc ms (fun ρ M' => ρ = some (0, if ot T v (6 * r + c) then 1 else 0) ∧ M' = M) := by
  have hx := hT.2.2.1 (6 * r + c)
  show Wp (d + 1) 219 0 [(2, ((116 : Nat) : Int)), (0, (r : Int)), (0, (c : Int)), (0, (v : Int))] [] M mc ms _
  refine g_aload_n lk_219_0 rfl ?_
  refine g_iload_n lk_219_1 rfl ?_
  refine g_iload_n lk_219_2 rfl ?_
  refine g_virtual (p := 116) (Qc := _) lk_219_3 rfl (Nat.le_of_ble_eq_true rfl) rfl rfl (lay.on (by decide) rfl) (Nat.le_of_ble_eq_true rfl) (Nat.le_of_ble_eq_true rfl) (Nat.zero_le _) (Nat.zero_le _) (c_Mo_cellAt lay hM (by omega) (by omega)) ?_
  rintro _ N1 ⟨rfl, hN1⟩
  rw [hN1]
  show Wp _ 219 6 [(2, ((116 : Nat) : Int)), (0, (r : Int)), (0, (c : Int)), (0, (v : Int))] [(0, (tX T (6 * r + c) : Int))] M _ _ _
  refine g_bipush lk_219_6 ?_
  refine g_icmp (t := 25) lk_219_8 rfl (by first | (unfold pm_inI; omega) | exact pm_and_in _ _ | exact pm_shr_in _ _ | exact pm_or_in _ _ | exact pm_xor_in _ _ | exact pm_shl_in _ _ | exact pm_cmp_in _ _ | exact pm_b8_in _ | (unfold pm_inI; split <;> omega)) (by first | (unfold pm_inI; omega) | exact pm_and_in _ _ | exact pm_shr_in _ _ | exact pm_or_in _ _ | exact pm_xor_in _ _ | exact pm_shl_in _ _ | exact pm_cmp_in _ _ | exact pm_b8_in _ | (unfold pm_inI; split <;> omega)) (fun h2 => ?_) (fun h2 => ?_)
  · replace h2 : (tX T (6 * r + c) : Int) = 10 := h2
    refine g_iconst lk_219_25 ?_
    refine g_ireturn lk_219_26 (fun _ => by omega) ?_
    refine ⟨?_, rfl⟩
    unfold ot
    congr 2
    symm
    first | (rw [if_pos]; simp; omega) | (rw [if_neg]; simp; omega)
  · replace h2 : ¬ ((tX T (6 * r + c) : Int) = 10) := h2
    refine g_aload_n lk_219_11 rfl ?_
    refine g_iload_n lk_219_12 rfl ?_
    refine g_iload_n lk_219_13 rfl ?_
    refine g_virtual (p := 116) (Qc := _) lk_219_14 rfl (Nat.le_of_ble_eq_true rfl) rfl rfl (lay.on (by decide) rfl) (Nat.le_of_ble_eq_true rfl) (Nat.le_of_ble_eq_true rfl) (Nat.zero_le _) (Nat.zero_le _) (c_Mo_cellAt lay hM (by omega) (by omega)) ?_
    rintro _ N3 ⟨rfl, hN3⟩
    rw [hN3]
    show Wp _ 219 17 [(2, ((116 : Nat) : Int)), (0, (r : Int)), (0, (c : Int)), (0, (v : Int))] [(0, (tX T (6 * r + c) : Int))] M _ _ _
    refine g_iload_n lk_219_17 rfl ?_
    refine g_icmp (t := 25) lk_219_18 rfl (by first | (unfold pm_inI; omega) | exact pm_and_in _ _ | exact pm_shr_in _ _ | exact pm_or_in _ _ | exact pm_xor_in _ _ | exact pm_shl_in _ _ | exact pm_cmp_in _ _ | exact pm_b8_in _ | (unfold pm_inI; split <;> omega)) (by first | (unfold pm_inI; omega) | exact pm_and_in _ _ | exact pm_shr_in _ _ | exact pm_or_in _ _ | exact pm_xor_in _ _ | exact pm_shl_in _ _ | exact pm_cmp_in _ _ | exact pm_b8_in _ | (unfold pm_inI; split <;> omega)) (fun h4 => ?_) (fun h4 => ?_)
    · replace h4 : (tX T (6 * r + c) : Int) = (v : Int) := h4
      refine g_iconst lk_219_25 ?_
      refine g_ireturn lk_219_26 (fun _ => by omega) ?_
      refine ⟨?_, rfl⟩
      unfold ot
      congr 2
      symm
      first | (rw [if_pos]; simp; omega) | (rw [if_neg]; simp; omega)
    · replace h4 : ¬ ((tX T (6 * r + c) : Int) = (v : Int)) := h4
      refine g_iconst lk_219_21 ?_
      refine g_goto (t := 26) lk_219_22 rfl ?_
      refine g_ireturn lk_219_26 (fun _ => by omega) ?_
      refine ⟨?_, rfl⟩
      unfold ot
      congr 2
      symm
      first | (rw [if_pos]; simp; omega) | (rw [if_neg]; simp; omega)
theorem all_PL (f : Nat → Bool) (g : Nat → Int) (s : Nat) : (PL g (s + 1)).all f = ((PL g s).all f && (decide (g s = -1) || f (6 * s + (g s).toNat))) := by
  rw [PL_s]
  by_cases h : g s = -1
  · rw [if_pos h]; simp [h]
  · rw [if_neg h, List.all_append]; simp [h]
theorem fo_rc {T : Tab} {v s r a b : Nat} (ha : a < 6) (hb : b < 6) : fo T v (6 * s + a) (6 * r + b) = (ot T v (6 * s + b) || ot T v (6 * r + a)) := by
  unfold fo
  rw [show (6 * s + a) / 6 = s by omega, show (6 * r + b) / 6 = r by omega, show (6 * s + a) % 6 = a by omega, show (6 * r + b) % 6 = b by omega]
set_option maxHeartbeats 4000000 in
theorem c_Mo_fits {d mc ms : Nat} {M : pm_M} (lay : Lay M) {T : Tab} (hT : TabOK T) (hM : MoAt M T) {r v : Nat} (hr : r < tR T) (hv : v < 11) (hg : ∀ s, s ≤ r → -1 ≤ pm_ct M 137 s ∧ pm_ct M 137 s < tC T) :
    pm_E (d + 2) 220 [(2, ((116 : Nat) : Int)), (0, (r : Int)), (0, (v : Int))] M mc ms (fun ρ M' => (ρ = some (0, if pm_ct M 137 r = -1 then 1 else if (tX T (6 * r + (pm_ct M 137 r).toNat) == v && okP T v (PL (pm_ct M 137) r) (6 * r + (pm_ct M 137 r).toNat)) = true then 1 else 0)) ∧ M' = M) := by
  obtain ⟨Q, hQ⟩ : ∃ Q : pm_Q, Q = (fun ρ M' => (ρ = some (0, if pm_ct M 137 r = -1 then 1 else if (tX T (6 * r + (pm_ct M 137 r).toNat) == v && okP T v (PL (pm_ct M 137) r) (6 * r + (pm_ct M 137 r).toNat)) = true then 1 else 0)) ∧ M' = M) := ⟨_, rfl⟩
  rw [← hQ]
  have hR := hT.1
  have hC := hT.2.1
  have hgr := hg r (Nat.le_refl _)
  by_cases w1 : pm_ct M 137 r = -1
  · have k34 : Wp (d + 2) 220 34 [(2, ((116 : Nat) : Int)), (0, (r : Int)), (0, (v : Int)), (0, 1), (0, 0)] [] M mc ms Q := by
      refine g_iload lk_220_34 rfl ?_
      refine g_iload_n lk_220_36 rfl ?_
      refine g_icmp (t := 109) lk_220_37 rfl (by first | (unfold pm_inI; omega) | exact pm_and_in _ _ | exact pm_shr_in _ _ | exact pm_or_in _ _ | exact pm_xor_in _ _ | exact pm_shl_in _ _ | exact pm_cmp_in _ _ | exact pm_b8_in _ | (unfold pm_inI; split <;> omega)) (by first | (unfold pm_inI; omega) | exact pm_and_in _ _ | exact pm_shr_in _ _ | exact pm_or_in _ _ | exact pm_xor_in _ _ | exact pm_shl_in _ _ | exact pm_cmp_in _ _ | exact pm_b8_in _ | (unfold pm_inI; split <;> omega)) (fun h1 => ?_) (fun h1 => ?_)
      · replace h1 : (r : Int) ≤ 0 := h1
        refine g_iload_n lk_220_109 rfl ?_
        refine g_ireturn lk_220_110 (fun _ => by omega) ?_
        rw [hQ, if_pos w1]
        exact ⟨rfl, rfl⟩
      · replace h1 : ¬ ((r : Int) ≤ 0) := h1
        refine g_iload_n lk_220_40 rfl ?_
        refine g_if (t := 109) lk_220_41 rfl (by first | (unfold pm_inI; omega) | exact pm_and_in _ _ | exact pm_shr_in _ _ | exact pm_or_in _ _ | exact pm_xor_in _ _ | exact pm_shl_in _ _ | exact pm_cmp_in _ _ | exact pm_b8_in _ | (unfold pm_inI; split <;> omega)) (fun h => absurd h (show ¬ ((1 : Int) = (0 : Int)) by omega)) (fun _ => ?_)
        refine g_aload_n lk_220_44 rfl ?_
        refine g_getfield lk_220_45 rfl (lay.on (by decide) rfl) (v := ((137 : Nat) : Int)) (lay.rf rfl) ?_
        refine g_iload_n lk_220_48 rfl ?_
        refine m_iaload (u := []) (M := M) lk_220_49 (lay.ay (by decide) rfl) (by omega) (j := r) (by omega) (v := (-1)) w1 ?_
        refine g_iconst lk_220_50 ?_
        refine g_icmp (t := 109) lk_220_51 rfl (by first | (unfold pm_inI; omega) | exact pm_and_in _ _ | exact pm_shr_in _ _ | exact pm_or_in _ _ | exact pm_xor_in _ _ | exact pm_shl_in _ _ | exact pm_cmp_in _ _ | exact pm_b8_in _ | (unfold pm_inI; split <;> omega)) (by first | (unfold pm_inI; omega) | exact pm_and_in _ _ | exact pm_shr_in _ _ | exact pm_or_in _ _ | exact pm_xor_in _ _ | exact pm_shl_in _ _ | exact pm_cmp_in _ _ | exact pm_b8_in _ | (unfold pm_inI; split <;> omega)) (fun _ => ?_) (fun h => absurd (show (-1 : Int) = (-1 : Int) by omega) h)
        refine g_iload_n lk_220_109 rfl ?_
        refine g_ireturn lk_220_110 (fun _ => by omega) ?_
        rw [hQ, if_pos w1]
        exact ⟨rfl, rfl⟩
    show Wp (d + 2) 220 0 [(2, ((116 : Nat) : Int)), (0, (r : Int)), (0, (v : Int)), (9, 0), (9, 0)] [] M mc ms Q
    refine g_aload_n lk_220_0 rfl ?_
    refine g_getfield lk_220_1 rfl (lay.on (by decide) rfl) (v := ((137 : Nat) : Int)) (lay.rf rfl) ?_
    refine g_iload_n lk_220_4 rfl ?_
    refine m_iaload (u := []) (M := M) lk_220_5 (lay.ay (by decide) rfl) (by omega) (j := r) (by omega) (v := (-1)) w1 ?_
    refine g_iconst lk_220_6 ?_
    refine g_icmp (t := 25) lk_220_7 rfl (by first | (unfold pm_inI; omega) | exact pm_and_in _ _ | exact pm_shr_in _ _ | exact pm_or_in _ _ | exact pm_xor_in _ _ | exact pm_shl_in _ _ | exact pm_cmp_in _ _ | exact pm_b8_in _ | (unfold pm_inI; split <;> omega)) (by first | (unfold pm_inI; omega) | exact pm_and_in _ _ | exact pm_shr_in _ _ | exact pm_or_in _ _ | exact pm_xor_in _ _ | exact pm_shl_in _ _ | exact pm_cmp_in _ _ | exact pm_b8_in _ | (unfold pm_inI; split <;> omega)) (fun _ => ?_) (fun h => absurd (show (-1 : Int) = (-1 : Int) by omega) h)
    refine g_iconst lk_220_25 ?_
    refine g_goto (t := 30) lk_220_26 rfl ?_
    refine g_istore_n (ls' := [(2, ((116 : Nat) : Int)), (0, (r : Int)), (0, (v : Int)), (0, 1), (9, 0)]) lk_220_30 rfl rfl ?_
    refine g_iconst lk_220_31 ?_
    refine g_istore (ls' := [(2, ((116 : Nat) : Int)), (0, (r : Int)), (0, (v : Int)), (0, 1), (0, 0)]) lk_220_32 rfl rfl ?_
    exact k34
  · obtain ⟨c, hc⟩ : ∃ c : Nat, pm_ct M 137 r = (c : Int) := ⟨(pm_ct M 137 r).toNat, by omega⟩
    rw [hc] at hQ hgr
    have hx := hT.2.2.1 (6 * r + c)
    rw [if_neg (by omega), Int.toNat_natCast] at hQ
    have loop : ∀ (n s : Nat) (b : Bool), s + n = r → b = (tX T (6 * r + c) == v && okP T v (PL (pm_ct M 137) s) (6 * r + c)) → Wp (d + 2) 220 34 [(2, ((116 : Nat) : Int)), (0, (r : Int)), (0, (v : Int)), (0, if b = true then 1 else 0), (0, (s : Int))] [] M mc ms Q := by
      intro n
      induction n with
      | zero =>
        intro s b hs hb
        have es : s = r := by omega
        refine g_iload lk_220_34 rfl ?_
        refine g_iload_n lk_220_36 rfl ?_
        refine g_icmp (t := 109) lk_220_37 rfl (by first | (unfold pm_inI; omega) | exact pm_and_in _ _ | exact pm_shr_in _ _ | exact pm_or_in _ _ | exact pm_xor_in _ _ | exact pm_shl_in _ _ | exact pm_cmp_in _ _ | exact pm_b8_in _ | (unfold pm_inI; split <;> omega)) (by first | (unfold pm_inI; omega) | exact pm_and_in _ _ | exact pm_shr_in _ _ | exact pm_or_in _ _ | exact pm_xor_in _ _ | exact pm_shl_in _ _ | exact pm_cmp_in _ _ | exact pm_b8_in _ | (unfold pm_inI; split <;> omega)) (fun h1 => ?_) (fun h1 => ?_)
        · replace h1 : (r : Int) ≤ (s : Int) := h1
          refine g_iload_n lk_220_109 rfl ?_
          refine g_ireturn lk_220_110 (fun _ => by omega) ?_
          rw [hQ, hb, es]
          exact ⟨rfl, rfl⟩
        · replace h1 : ¬ ((r : Int) ≤ (s : Int)) := h1
          omega
      | succ n ih =>
        intro s b hs hb
        cases b with
        | false =>
          have := ih (s + 1) false (by omega) (by
            unfold okP at hb ⊢
            rw [all_PL, ← Bool.and_assoc, ← hb, Bool.false_and])
          have fin : ∀ m t : Nat, t + m = r → false = (tX T (6 * r + c) == v && okP T v (PL (pm_ct M 137) t) (6 * r + c)) → false = (tX T (6 * r + c) == v && okP T v (PL (pm_ct M 137) r) (6 * r + c)) := by
            intro m
            induction m with
            | zero => intro t ht h; rw [show r = t by omega]; rw [show r = t by omega] at h; exact h
            | succ m ihm =>
              intro t ht h
              refine ihm (t + 1) (by omega) ?_
              unfold okP at h ⊢
              rw [all_PL, ← Bool.and_assoc, ← h, Bool.false_and]
          have f2 := fin (n + 1) s (by omega) hb
          refine g_iload lk_220_34 rfl ?_
          refine g_iload_n lk_220_36 rfl ?_
          refine g_icmp (t := 109) lk_220_37 rfl (by first | (unfold pm_inI; omega) | exact pm_and_in _ _ | exact pm_shr_in _ _ | exact pm_or_in _ _ | exact pm_xor_in _ _ | exact pm_shl_in _ _ | exact pm_cmp_in _ _ | exact pm_b8_in _ | (unfold pm_inI; split <;> omega)) (by first | (unfold pm_inI; omega) | exact pm_and_in _ _ | exact pm_shr_in _ _ | exact pm_or_in _ _ | exact pm_xor_in _ _ | exact pm_shl_in _ _ | exact pm_cmp_in _ _ | exact pm_b8_in _ | (unfold pm_inI; split <;> omega)) (fun h1 => ?_) (fun h1 => ?_)
          · replace h1 : (r : Int) ≤ (s : Int) := h1
            refine g_iload_n lk_220_109 rfl ?_
            refine g_ireturn lk_220_110 (fun _ => by omega) ?_
            omega
          · replace h1 : ¬ ((r : Int) ≤ (s : Int)) := h1
            refine g_iload_n lk_220_40 rfl ?_
            refine g_if (t := 109) lk_220_41 rfl (by unfold pm_inI; omega) (fun _ => ?_) (fun h => absurd rfl h)
            refine g_iload_n lk_220_109 rfl ?_
            refine g_ireturn lk_220_110 (fun _ => Or.inl rfl) ?_
            rw [hQ, ← f2]
            exact ⟨rfl, rfl⟩
        | true =>
          have hgs := hg s (by omega)
          have next : ∀ b' : Bool, b' = (decide (pm_ct M 137 s = -1) || fo T v (6 * s + (pm_ct M 137 s).toNat) (6 * r + c)) → Wp (d + 2) 220 34 [(2, ((116 : Nat) : Int)), (0, (r : Int)), (0, (v : Int)), (0, if b' = true then 1 else 0), (0, ((s + 1 : Nat) : Int))] [] M mc ms Q := fun b' e =>
            ih (s + 1) b' (by omega) (by
              unfold okP at hb ⊢
              rw [all_PL, ← Bool.and_assoc, ← hb, Bool.true_and]; exact e)
          by_cases w2 : pm_ct M 137 s = -1
          · have e1 := next true (by rw [w2]; rfl)
            refine g_iload lk_220_34 rfl ?_
            refine g_iload_n lk_220_36 rfl ?_
            refine g_icmp (t := 109) lk_220_37 rfl (by first | (unfold pm_inI; omega) | exact pm_and_in _ _ | exact pm_shr_in _ _ | exact pm_or_in _ _ | exact pm_xor_in _ _ | exact pm_shl_in _ _ | exact pm_cmp_in _ _ | exact pm_b8_in _ | (unfold pm_inI; split <;> omega)) (by first | (unfold pm_inI; omega) | exact pm_and_in _ _ | exact pm_shr_in _ _ | exact pm_or_in _ _ | exact pm_xor_in _ _ | exact pm_shl_in _ _ | exact pm_cmp_in _ _ | exact pm_b8_in _ | (unfold pm_inI; split <;> omega)) (fun h1 => ?_) (fun h1 => ?_)
            · replace h1 : (r : Int) ≤ (s : Int) := h1
              refine g_iload_n lk_220_109 rfl ?_
              refine g_ireturn lk_220_110 (fun _ => by omega) ?_
              omega
            · replace h1 : ¬ ((r : Int) ≤ (s : Int)) := h1
              refine g_iload_n lk_220_40 rfl ?_
              refine g_if (t := 109) lk_220_41 rfl (by first | (unfold pm_inI; omega) | exact pm_and_in _ _ | exact pm_shr_in _ _ | exact pm_or_in _ _ | exact pm_xor_in _ _ | exact pm_shl_in _ _ | exact pm_cmp_in _ _ | exact pm_b8_in _ | (unfold pm_inI; split <;> omega)) (fun h => absurd h (show ¬ ((1 : Int) = (0 : Int)) by omega)) (fun _ => ?_)
              refine g_aload_n lk_220_44 rfl ?_
              refine g_getfield lk_220_45 rfl (lay.on (by decide) rfl) (v := ((137 : Nat) : Int)) (lay.rf rfl) ?_
              refine g_iload_n lk_220_48 rfl ?_
              refine m_iaload (u := []) (M := M) lk_220_49 (lay.ay (by decide) rfl) (by omega) (j := r) (by omega) (v := (c : Int)) hc ?_
              refine g_iconst lk_220_50 ?_
              refine g_icmp (t := 109) lk_220_51 rfl (by first | (unfold pm_inI; omega) | exact pm_and_in _ _ | exact pm_shr_in _ _ | exact pm_or_in _ _ | exact pm_xor_in _ _ | exact pm_shl_in _ _ | exact pm_cmp_in _ _ | exact pm_b8_in _ | (unfold pm_inI; split <;> omega)) (by first | (unfold pm_inI; omega) | exact pm_and_in _ _ | exact pm_shr_in _ _ | exact pm_or_in _ _ | exact pm_xor_in _ _ | exact pm_shl_in _ _ | exact pm_cmp_in _ _ | exact pm_b8_in _ | (unfold pm_inI; split <;> omega)) (fun h2 => ?_) (fun h2 => ?_)
              · replace h2 : (c : Int) = (-1) := h2
                refine g_iload_n lk_220_109 rfl ?_
                refine g_ireturn lk_220_110 (fun _ => by omega) ?_
                omega
              · replace h2 : ¬ ((c : Int) = (-1)) := h2
                refine g_aload_n lk_220_54 rfl ?_
                refine g_getfield lk_220_55 rfl (lay.on (by decide) rfl) (v := ((137 : Nat) : Int)) (lay.rf rfl) ?_
                refine g_iload lk_220_58 rfl ?_
                refine m_iaload (u := []) (M := M) lk_220_60 (lay.ay (by decide) rfl) (by omega) (j := s) (by omega) (v := (-1)) w2 ?_
                refine g_iconst lk_220_61 ?_
                refine g_icmp (t := 97) lk_220_62 rfl (by first | (unfold pm_inI; omega) | exact pm_and_in _ _ | exact pm_shr_in _ _ | exact pm_or_in _ _ | exact pm_xor_in _ _ | exact pm_shl_in _ _ | exact pm_cmp_in _ _ | exact pm_b8_in _ | (unfold pm_inI; split <;> omega)) (by first | (unfold pm_inI; omega) | exact pm_and_in _ _ | exact pm_shr_in _ _ | exact pm_or_in _ _ | exact pm_xor_in _ _ | exact pm_shl_in _ _ | exact pm_cmp_in _ _ | exact pm_b8_in _ | (unfold pm_inI; split <;> omega)) (fun _ => ?_) (fun h => absurd (show (-1 : Int) = (-1 : Int) by omega) h)
                refine g_iconst lk_220_97 ?_
                refine g_goto (t := 102) lk_220_98 rfl ?_
                refine g_istore_n (ls' := [(2, ((116 : Nat) : Int)), (0, (r : Int)), (0, (v : Int)), (0, 1), (0, (s : Int))]) lk_220_102 rfl rfl ?_
                refine g_iinc (ls' := [(2, ((116 : Nat) : Int)), (0, (r : Int)), (0, (v : Int)), (0, 1), (0, ((s : Int) + 1))]) lk_220_103 rfl rfl rfl ?_
                refine g_goto (t := 34) lk_220_106 rfl ?_
                exact e1
          · obtain ⟨a, ha⟩ : ∃ a : Nat, pm_ct M 137 s = (a : Int) := ⟨(pm_ct M 137 s).toNat, by omega⟩
            rw [ha] at next hgs
            rw [Int.toNat_natCast, fo_rc (by omega) (by omega), show (decide ((a : Int) = -1)) = false by simp, Bool.false_or] at next
            refine g_iload lk_220_34 rfl ?_
            refine g_iload_n lk_220_36 rfl ?_
            refine g_icmp (t := 109) lk_220_37 rfl (by first | (unfold pm_inI; omega) | exact pm_and_in _ _ | exact pm_shr_in _ _ | exact pm_or_in _ _ | exact pm_xor_in _ _ | exact pm_shl_in _ _ | exact pm_cmp_in _ _ | exact pm_b8_in _ | (unfold pm_inI; split <;> omega)) (by first | (unfold pm_inI; omega) | exact pm_and_in _ _ | exact pm_shr_in _ _ | exact pm_or_in _ _ | exact pm_xor_in _ _ | exact pm_shl_in _ _ | exact pm_cmp_in _ _ | exact pm_b8_in _ | (unfold pm_inI; split <;> omega)) (fun h1 => ?_) (fun h1 => ?_)
            · replace h1 : (r : Int) ≤ (s : Int) := h1
              refine g_iload_n lk_220_109 rfl ?_
              refine g_ireturn lk_220_110 (fun _ => by omega) ?_
              omega
            · replace h1 : ¬ ((r : Int) ≤ (s : Int)) := h1
              refine g_iload_n lk_220_40 rfl ?_
              refine g_if (t := 109) lk_220_41 rfl (by first | (unfold pm_inI; omega) | exact pm_and_in _ _ | exact pm_shr_in _ _ | exact pm_or_in _ _ | exact pm_xor_in _ _ | exact pm_shl_in _ _ | exact pm_cmp_in _ _ | exact pm_b8_in _ | (unfold pm_inI; split <;> omega)) (fun h => absurd h (show ¬ ((1 : Int) = (0 : Int)) by omega)) (fun _ => ?_)
              refine g_aload_n lk_220_44 rfl ?_
              refine g_getfield lk_220_45 rfl (lay.on (by decide) rfl) (v := ((137 : Nat) : Int)) (lay.rf rfl) ?_
              refine g_iload_n lk_220_48 rfl ?_
              refine m_iaload (u := []) (M := M) lk_220_49 (lay.ay (by decide) rfl) (by omega) (j := r) (by omega) (v := (c : Int)) hc ?_
              refine g_iconst lk_220_50 ?_
              refine g_icmp (t := 109) lk_220_51 rfl (by first | (unfold pm_inI; omega) | exact pm_and_in _ _ | exact pm_shr_in _ _ | exact pm_or_in _ _ | exact pm_xor_in _ _ | exact pm_shl_in _ _ | exact pm_cmp_in _ _ | exact pm_b8_in _ | (unfold pm_inI; split <;> omega)) (by first | (unfold pm_inI; omega) | exact pm_and_in _ _ | exact pm_shr_in _ _ | exact pm_or_in _ _ | exact pm_xor_in _ _ | exact pm_shl_in _ _ | exact pm_cmp_in _ _ | exact pm_b8_in _ | (unfold pm_inI; split <;> omega)) (fun h2 => ?_) (fun h2 => ?_)
              · replace h2 : (c : Int) = (-1) := h2
                refine g_iload_n lk_220_109 rfl ?_
                refine g_ireturn lk_220_110 (fun _ => by omega) ?_
                omega
              · replace h2 : ¬ ((c : Int) = (-1)) := h2
                refine g_aload_n lk_220_54 rfl ?_
                refine g_getfield lk_220_55 rfl (lay.on (by decide) rfl) (v := ((137 : Nat) : Int)) (lay.rf rfl) ?_
                refine g_iload lk_220_58 rfl ?_
                refine m_iaload (u := []) (M := M) lk_220_60 (lay.ay (by decide) rfl) (by omega) (j := s) (by omega) (v := (a : Int)) ha ?_
                refine g_iconst lk_220_61 ?_
                refine g_icmp (t := 97) lk_220_62 rfl (by first | (unfold pm_inI; omega) | exact pm_and_in _ _ | exact pm_shr_in _ _ | exact pm_or_in _ _ | exact pm_xor_in _ _ | exact pm_shl_in _ _ | exact pm_cmp_in _ _ | exact pm_b8_in _ | (unfold pm_inI; split <;> omega)) (by first | (unfold pm_inI; omega) | exact pm_and_in _ _ | exact pm_shr_in _ _ | exact pm_or_in _ _ | exact pm_xor_in _ _ | exact pm_shl_in _ _ | exact pm_cmp_in _ _ | exact pm_b8_in _ | (unfold pm_inI; split <;> omega)) (fun h3 => ?_) (fun h3 => ?_)
                · replace h3 : (a : Int) = (-1) := h3
                  refine g_iconst lk_220_97 ?_
                  refine g_goto (t := 102) lk_220_98 rfl ?_
                  refine g_istore_n (ls' := [(2, ((116 : Nat) : Int)), (0, (r : Int)), (0, (v : Int)), (0, 1), (0, (s : Int))]) lk_220_102 rfl rfl ?_
                  refine g_iinc (ls' := [(2, ((116 : Nat) : Int)), (0, (r : Int)), (0, (v : Int)), (0, 1), (0, ((s : Int) + 1))]) lk_220_103 rfl rfl rfl ?_
                  refine g_goto (t := 34) lk_220_106 rfl ?_
                  omega
                · replace h3 : ¬ ((a : Int) = (-1)) := h3
                  refine g_aload_n lk_220_65 rfl ?_
                  refine g_iload_n lk_220_66 rfl ?_
                  refine g_aload_n lk_220_67 rfl ?_
                  refine g_getfield lk_220_68 rfl (lay.on (by decide) rfl) (v := ((137 : Nat) : Int)) (lay.rf rfl) ?_
                  refine g_iload lk_220_71 rfl ?_
                  refine m_iaload (u := []) (M := M) lk_220_73 (lay.ay (by decide) rfl) (by omega) (j := s) (by omega) (v := (a : Int)) ha ?_
                  refine g_iload_n lk_220_74 rfl ?_
                  refine g_virtual (p := 116) (Qc := _) lk_220_75 rfl (Nat.le_of_ble_eq_true rfl) rfl rfl (lay.on (by decide) rfl) (Nat.le_of_ble_eq_true rfl) (Nat.le_of_ble_eq_true rfl) (Nat.zero_le _) (Nat.zero_le _) (c_Mo_isOther lay hT hM (by omega) (by omega) (by omega)) ?_
                  rintro _ N4 ⟨rfl, hN4⟩
                  rw [hN4]
                  show Wp _ 220 78 [(2, ((116 : Nat) : Int)), (0, (r : Int)), (0, (v : Int)), (0, 1), (0, (s : Int))] [(0, (if ot T v (6 * r + a) then (1 : Int) else 0))] M _ _ _
                  refine g_if (t := 97) lk_220_78 rfl (by first | (unfold pm_inI; omega) | exact pm_and_in _ _ | exact pm_shr_in _ _ | exact pm_or_in _ _ | exact pm_xor_in _ _ | exact pm_shl_in _ _ | exact pm_cmp_in _ _ | exact pm_b8_in _ | (unfold pm_inI; split <;> omega)) (fun h5 => ?_) (fun h5 => ?_)
                  · replace h5 : ¬ (if ot T v (6 * r + a) then (1 : Int) else 0) = 0 := h5
                    refine g_iconst lk_220_97 ?_
                    refine g_goto (t := 102) lk_220_98 rfl ?_
                    refine g_istore_n (ls' := [(2, ((116 : Nat) : Int)), (0, (r : Int)), (0, (v : Int)), (0, 1), (0, (s : Int))]) lk_220_102 rfl rfl ?_
                    refine g_iinc (ls' := [(2, ((116 : Nat) : Int)), (0, (r : Int)), (0, (v : Int)), (0, 1), (0, ((s : Int) + 1))]) lk_220_103 rfl rfl rfl ?_
                    refine g_goto (t := 34) lk_220_106 rfl ?_
                    have e1 := next true (by
                      cases q : ot T v (6 * r + a) with
                      | true => simp
                      | false => rw [q] at h5; exact absurd rfl h5)
                    exact e1
                  · replace h5 : ¬ (¬ (if ot T v (6 * r + a) then (1 : Int) else 0) = 0) := h5
                    refine g_aload_n lk_220_81 rfl ?_
                    refine g_iload lk_220_82 rfl ?_
                    refine g_aload_n lk_220_84 rfl ?_
                    refine g_getfield lk_220_85 rfl (lay.on (by decide) rfl) (v := ((137 : Nat) : Int)) (lay.rf rfl) ?_
                    refine g_iload_n lk_220_88 rfl ?_
                    refine m_iaload (u := []) (M := M) lk_220_89 (lay.ay (by decide) rfl) (by omega) (j := r) (by omega) (v := (c : Int)) hc ?_
                    refine g_iload_n lk_220_90 rfl ?_
                    refine g_virtual (p := 116) (Qc := _) lk_220_91 rfl (Nat.le_of_ble_eq_true rfl) rfl rfl (lay.on (by decide) rfl) (Nat.le_of_ble_eq_true rfl) (Nat.le_of_ble_eq_true rfl) (Nat.zero_le _) (Nat.zero_le _) (c_Mo_isOther lay hT hM (by omega) (by omega) (by omega)) ?_
                    rintro _ N6 ⟨rfl, hN6⟩
                    rw [hN6]
                    show Wp _ 220 94 [(2, ((116 : Nat) : Int)), (0, (r : Int)), (0, (v : Int)), (0, 1), (0, (s : Int))] [(0, (if ot T v (6 * s + c) then (1 : Int) else 0))] M _ _ _
                    refine g_if (t := 101) lk_220_94 rfl (by first | (unfold pm_inI; omega) | exact pm_and_in _ _ | exact pm_shr_in _ _ | exact pm_or_in _ _ | exact pm_xor_in _ _ | exact pm_shl_in _ _ | exact pm_cmp_in _ _ | exact pm_b8_in _ | (unfold pm_inI; split <;> omega)) (fun h7 => ?_) (fun h7 => ?_)
                    · replace h7 : (if ot T v (6 * s + c) then (1 : Int) else 0) = 0 := h7
                      refine g_iconst lk_220_101 ?_
                      refine g_istore_n (ls' := [(2, ((116 : Nat) : Int)), (0, (r : Int)), (0, (v : Int)), (0, 0), (0, (s : Int))]) lk_220_102 rfl rfl ?_
                      refine g_iinc (ls' := [(2, ((116 : Nat) : Int)), (0, (r : Int)), (0, (v : Int)), (0, 0), (0, ((s : Int) + 1))]) lk_220_103 rfl rfl rfl ?_
                      refine g_goto (t := 34) lk_220_106 rfl ?_
                      have e1 := next false (by
                        cases q : ot T v (6 * r + a) with
                        | true => rw [q] at h5; exact absurd (fun h => by cases h) h5
                        | false =>
                          cases q2 : ot T v (6 * s + c) with
                          | false => rfl
                          | true => rw [q2] at h7; cases h7)
                      exact e1
                    · replace h7 : ¬ ((if ot T v (6 * s + c) then (1 : Int) else 0) = 0) := h7
                      refine g_iconst lk_220_97 ?_
                      refine g_goto (t := 102) lk_220_98 rfl ?_
                      refine g_istore_n (ls' := [(2, ((116 : Nat) : Int)), (0, (r : Int)), (0, (v : Int)), (0, 1), (0, (s : Int))]) lk_220_102 rfl rfl ?_
                      refine g_iinc (ls' := [(2, ((116 : Nat) : Int)), (0, (r : Int)), (0, (v : Int)), (0, 1), (0, ((s : Int) + 1))]) lk_220_103 rfl rfl rfl ?_
                      refine g_goto (t := 34) lk_220_106 rfl ?_
                      have e1 := next true (by
                        cases q2 : ot T v (6 * s + c) with
                        | true => rfl
                        | false => rw [q2] at h7; exact absurd rfl h7)
                      exact e1
    show Wp (d + 2) 220 0 [(2, ((116 : Nat) : Int)), (0, (r : Int)), (0, (v : Int)), (9, 0), (9, 0)] [] M mc ms Q
    refine g_aload_n lk_220_0 rfl ?_
    refine g_getfield lk_220_1 rfl (lay.on (by decide) rfl) (v := ((137 : Nat) : Int)) (lay.rf rfl) ?_
    refine g_iload_n lk_220_4 rfl ?_
    refine m_iaload (u := []) (M := M) lk_220_5 (lay.ay (by decide) rfl) (by omega) (j := r) (by omega) (v := (c : Int)) hc ?_
    refine g_iconst lk_220_6 ?_
    refine g_icmp (t := 25) lk_220_7 rfl (by first | (unfold pm_inI; omega) | exact pm_and_in _ _ | exact pm_shr_in _ _ | exact pm_or_in _ _ | exact pm_xor_in _ _ | exact pm_shl_in _ _ | exact pm_cmp_in _ _ | exact pm_b8_in _ | (unfold pm_inI; split <;> omega)) (by first | (unfold pm_inI; omega) | exact pm_and_in _ _ | exact pm_shr_in _ _ | exact pm_or_in _ _ | exact pm_xor_in _ _ | exact pm_shl_in _ _ | exact pm_cmp_in _ _ | exact pm_b8_in _ | (unfold pm_inI; split <;> omega)) (fun h1 => ?_) (fun h1 => ?_)
    · replace h1 : (c : Int) = (-1) := h1
      refine g_iconst lk_220_25 ?_
      refine g_goto (t := 30) lk_220_26 rfl ?_
      refine g_istore_n (ls' := [(2, ((116 : Nat) : Int)), (0, (r : Int)), (0, (v : Int)), (0, 1), (9, 0)]) lk_220_30 rfl rfl ?_
      refine g_iconst lk_220_31 ?_
      refine g_istore (ls' := [(2, ((116 : Nat) : Int)), (0, (r : Int)), (0, (v : Int)), (0, 1), (0, 0)]) lk_220_32 rfl rfl ?_
      omega
    · replace h1 : ¬ ((c : Int) = (-1)) := h1
      refine g_aload_n lk_220_10 rfl ?_
      refine g_iload_n lk_220_11 rfl ?_
      refine g_aload_n lk_220_12 rfl ?_
      refine g_getfield lk_220_13 rfl (lay.on (by decide) rfl) (v := ((137 : Nat) : Int)) (lay.rf rfl) ?_
      refine g_iload_n lk_220_16 rfl ?_
      refine m_iaload (u := []) (M := M) lk_220_17 (lay.ay (by decide) rfl) (by omega) (j := r) (by omega) (v := (c : Int)) hc ?_
      refine g_virtual (p := 116) (Qc := _) lk_220_18 rfl (Nat.le_of_ble_eq_true rfl) rfl rfl (lay.on (by decide) rfl) (Nat.le_of_ble_eq_true rfl) (Nat.le_of_ble_eq_true rfl) (Nat.zero_le _) (Nat.zero_le _) (c_Mo_cellAt lay hM (by omega) (by omega)) ?_
      rintro _ N2 ⟨rfl, hN2⟩
      rw [hN2]
      show Wp _ 220 21 [(2, ((116 : Nat) : Int)), (0, (r : Int)), (0, (v : Int)), (9, 0), (9, 0)] [(0, (tX T (6 * r + c) : Int))] M _ _ _
      refine g_iload_n lk_220_21 rfl ?_
      refine g_icmp (t := 29) lk_220_22 rfl (by first | (unfold pm_inI; omega) | exact pm_and_in _ _ | exact pm_shr_in _ _ | exact pm_or_in _ _ | exact pm_xor_in _ _ | exact pm_shl_in _ _ | exact pm_cmp_in _ _ | exact pm_b8_in _ | (unfold pm_inI; split <;> omega)) (by first | (unfold pm_inI; omega) | exact pm_and_in _ _ | exact pm_shr_in _ _ | exact pm_or_in _ _ | exact pm_xor_in _ _ | exact pm_shl_in _ _ | exact pm_cmp_in _ _ | exact pm_b8_in _ | (unfold pm_inI; split <;> omega)) (fun h3 => ?_) (fun h3 => ?_)
      · replace h3 : ¬ (tX T (6 * r + c) : Int) = (v : Int) := h3
        refine g_iconst lk_220_29 ?_
        refine g_istore_n (ls' := [(2, ((116 : Nat) : Int)), (0, (r : Int)), (0, (v : Int)), (0, 0), (9, 0)]) lk_220_30 rfl rfl ?_
        refine g_iconst lk_220_31 ?_
        refine g_istore (ls' := [(2, ((116 : Nat) : Int)), (0, (r : Int)), (0, (v : Int)), (0, 0), (0, 0)]) lk_220_32 rfl rfl ?_
        have e1 := loop r 0 false (by omega) (by
          show false = (tX T (6 * r + c) == v && true)
          rw [Bool.and_true]
          symm; rw [beq_eq_false_iff_ne]; omega)
        exact e1
      · replace h3 : ¬ (¬ (tX T (6 * r + c) : Int) = (v : Int)) := h3
        refine g_iconst lk_220_25 ?_
        refine g_goto (t := 30) lk_220_26 rfl ?_
        refine g_istore_n (ls' := [(2, ((116 : Nat) : Int)), (0, (r : Int)), (0, (v : Int)), (0, 1), (9, 0)]) lk_220_30 rfl rfl ?_
        refine g_iconst lk_220_31 ?_
        refine g_istore (ls' := [(2, ((116 : Nat) : Int)), (0, (r : Int)), (0, (v : Int)), (0, 1), (0, 0)]) lk_220_32 rfl rfl ?_
        have e1 := loop r 0 true (by omega) (by
          show true = (tX T (6 * r + c) == v && true)
          rw [Bool.and_true]
          symm; rw [beq_iff_eq]; omega)
        exact e1
set_option maxHeartbeats 8000000 in
theorem c_Mo_looks {d mc ms : Nat} {M : pm_M} (lay0 : Lay M) {T : Tab} (hT : TabOK T) (hM0 : MoAt M T) (hg : ∀ s, s < tR T → -1 ≤ pm_ct M 137 s ∧ pm_ct M 137 s < tC T) {V : List (List Nat)} (hL : Look M V) :
    pm_E d 221 [(2, ((116 : Nat) : Int))] M mc ms (fun ρ M' => ρ = none ∧ Lay M' ∧ MF [138, 139] [43] M M' ∧ Look M' (V ++ [PL (pm_ct M 137) (tR T)])) := by
  obtain ⟨Q, hQ⟩ : ∃ Q : pm_Q, Q = (fun ρ M' => ρ = none ∧ Lay M' ∧ MF [138, 139] [43] M M' ∧ Look M' (V ++ [PL (pm_ct M 137) (tR T)])) := ⟨_, rfl⟩
  rw [← hQ]
  have hR := hT.1
  have hC := hT.2.1
  obtain ⟨⟨X, hX, X6, X36, x43, xn⟩, hcn⟩ := hL
  obtain ⟨g, eg⟩ : ∃ g, g = pm_ct M 137 := ⟨_, rfl⟩
  rw [← eg] at hg hQ
  obtain ⟨P, eP⟩ : ∃ P, P = PL g (tR T) := ⟨_, rfl⟩
  rw [← eP] at hQ
  obtain ⟨p, ep⟩ : ∃ p, p = P.length := ⟨_, rfl⟩
  have p6 : p ≤ tR T := by rw [ep, eP]; exact PL_len g _
  have P36 : ∀ x, x ∈ P → x < 36 := by rw [eP]; exact PL_36 (by omega) (fun s hs => by have := hg s hs; omega)
  obtain ⟨x, ex⟩ : ∃ x, x = X.length := ⟨_, rfl⟩
  rw [← ex] at x43 X6
  -- what was counted
  have hcn' : ∀ n, n ≤ 6 → pm_upd (pm_ct M 139) p ((cnt V p : Int) + 1) n = (cnt (V ++ [P]) n : Int) := fun n hn => by
    rw [cnt_app, cnt_one, ← ep]
    by_cases e : n = p
    · subst e; rw [pm_upd_eq, if_pos rfl]; omega
    · rw [pm_upd_ne e, if_neg (by omega), hcn n hn]; omega
  -- the new one is copied
  have copy : ∀ (n r k : Nat) (z4 : Int) (v6 : pm_V) (N : pm_M), r + n = tR T → k = (PL g r).length → Lay N → MF [138, 139] [43] M N → (∀ j, j ≤ 6 → pm_ct N 139 j = (cnt (V ++ [P]) j : Int)) → (∀ j y, (PL g r)[j]? = some y → pm_ct N 138 j = (nm y : Int)) → BestV (V ++ [P]) P → Wp d 221 177 [(2, ((116 : Nat) : Int)), (0, (p : Int)), (0, 1), (0, (k : Int)), (0, z4), (0, (r : Int)), v6] [] N mc ms Q := by
    intro n
    induction n with
    | zero =>
      intro r k z4 v6 N hr hk lay hF hc hj hB
      have hM : MoAt N T := hM0.mf hF (by decide) (by decide) (by decide) (by decide)
      have er : r = tR T := by omega
      rw [er, ← eP] at hj
      refine g_iload lk_221_177 rfl ?_
      refine g_aload_n lk_221_179 rfl ?_
      refine m_getfield (u := []) (M := N) lk_221_180 rfl (lay.on (by decide) rfl) (v := (tR T : Int)) hM.1 ?_
      refine g_icmp (t := 229) lk_221_183 rfl (by first | (unfold pm_inI; omega) | exact pm_and_in _ _ | exact pm_shr_in _ _ | exact pm_or_in _ _ | exact pm_xor_in _ _ | exact pm_shl_in _ _ | exact pm_cmp_in _ _ | exact pm_b8_in _ | (unfold pm_inI; split <;> omega)) (by first | (unfold pm_inI; omega) | exact pm_and_in _ _ | exact pm_shr_in _ _ | exact pm_or_in _ _ | exact pm_xor_in _ _ | exact pm_shl_in _ _ | exact pm_cmp_in _ _ | exact pm_b8_in _ | (unfold pm_inI; split <;> omega)) (fun h1 => ?_) (fun h1 => ?_)
      · replace h1 : (tR T : Int) ≤ (r : Int) := h1
        refine g_aload_n lk_221_229 rfl ?_
        refine g_iload_n lk_221_230 rfl ?_
        have lay2 : Lay (Mu [(116, pm_upd (pm_ct N 116) 43 (p : Int))] N) := lay.muF (l := []) (a := 116) (k := 43) (z := (p : Int)) rfl rfl
        refine m_putfield (u := []) (u' := [(116, pm_upd (pm_ct N 116) 43 (p : Int))]) (M := N) lk_221_231 rfl (lay.on (by decide) rfl) (fun h => absurd h (by decide)) rfl ?_
        refine g_return lk_221_234 ?_
        rw [hQ]
        refine ⟨rfl, lay2, hF.trans (MF.mu _ _ rfl (fun j hj => upd_ne (by simpa using hj))), ⟨P, hB, by omega, P36, ?_, fun j y h => ?_⟩, fun j h => ?_⟩
        · rw [Mu_ct, ← ep]; rfl
        · rw [Mu_ct]; exact hj j y h
        · rw [Mu_ct]; exact hc j h
      · replace h1 : ¬ ((tR T : Int) ≤ (r : Int)) := h1
        omega
    | succ n ih =>
      intro r k z4 v6 N hr hk lay hF hc hj hB
      have hM : MoAt N T := hM0.mf hF (by decide) (by decide) (by decide) (by decide)
      have e37 : pm_ct N 137 = g := by rw [eg]; exact hF.ct (by decide) (by decide)
      have hgr := hg r (by omega)
      have e37r : pm_ct N 137 r = g r := by rw [e37]
      have kl := PL_len g r
      have es := PL_s g r
      refine g_iload lk_221_177 rfl ?_
      refine g_aload_n lk_221_179 rfl ?_
      refine m_getfield (u := []) (M := N) lk_221_180 rfl (lay.on (by decide) rfl) (v := (tR T : Int)) hM.1 ?_
      refine g_icmp (t := 229) lk_221_183 rfl (by first | (unfold pm_inI; omega) | exact pm_and_in _ _ | exact pm_shr_in _ _ | exact pm_or_in _ _ | exact pm_xor_in _ _ | exact pm_shl_in _ _ | exact pm_cmp_in _ _ | exact pm_b8_in _ | (unfold pm_inI; split <;> omega)) (by first | (unfold pm_inI; omega) | exact pm_and_in _ _ | exact pm_shr_in _ _ | exact pm_or_in _ _ | exact pm_xor_in _ _ | exact pm_shl_in _ _ | exact pm_cmp_in _ _ | exact pm_b8_in _ | (unfold pm_inI; split <;> omega)) (fun h1 => ?_) (fun h1 => ?_)
      · replace h1 : (tR T : Int) ≤ (r : Int) := h1
        omega
      · replace h1 : ¬ ((tR T : Int) ≤ (r : Int)) := h1
        refine g_iload_n lk_221_186 rfl ?_
        refine g_if (t := 229) lk_221_187 rfl (by first | (unfold pm_inI; omega) | exact pm_and_in _ _ | exact pm_shr_in _ _ | exact pm_or_in _ _ | exact pm_xor_in _ _ | exact pm_shl_in _ _ | exact pm_cmp_in _ _ | exact pm_b8_in _ | (unfold pm_inI; split <;> omega)) (fun h => absurd h (show ¬ ((1 : Int) = (0 : Int)) by omega)) (fun _ => ?_)
        refine g_aload_n lk_221_190 rfl ?_
        refine g_getfield lk_221_191 rfl (lay.on (by decide) rfl) (v := ((137 : Nat) : Int)) (lay.rf rfl) ?_
        refine g_iload lk_221_194 rfl ?_
        refine m_iaload (u := []) (M := N) lk_221_196 (lay.ay (by decide) rfl) (by omega) (j := r) (by omega) (v := (g r)) e37r ?_
        refine g_iconst lk_221_197 ?_
        refine g_icmp (t := 223) lk_221_198 rfl (by first | (unfold pm_inI; omega) | exact pm_and_in _ _ | exact pm_shr_in _ _ | exact pm_or_in _ _ | exact pm_xor_in _ _ | exact pm_shl_in _ _ | exact pm_cmp_in _ _ | exact pm_b8_in _ | (unfold pm_inI; split <;> omega)) (by first | (unfold pm_inI; omega) | exact pm_and_in _ _ | exact pm_shr_in _ _ | exact pm_or_in _ _ | exact pm_xor_in _ _ | exact pm_shl_in _ _ | exact pm_cmp_in _ _ | exact pm_b8_in _ | (unfold pm_inI; split <;> omega)) (fun h2 => ?_) (fun h2 => ?_)
        · replace h2 : (g r) = (-1) := h2
          refine g_iinc (ls' := [(2, ((116 : Nat) : Int)), (0, (p : Int)), (0, 1), (0, (k : Int)), (0, z4), (0, ((r : Int) + 1)), v6]) lk_221_223 rfl rfl rfl ?_
          refine g_goto (t := 177) lk_221_226 rfl ?_
          rw [if_pos (by omega)] at es
          exact ih (r + 1) k _ _ N (by omega) (by rw [es]; exact hk) lay hF hc (by rw [es]; exact hj) hB
        · replace h2 : ¬ ((g r) = (-1)) := h2
          refine g_aload_n lk_221_201 rfl ?_
          refine g_getfield lk_221_202 rfl (lay.on (by decide) rfl) (v := ((138 : Nat) : Int)) (lay.rf rfl) ?_
          refine g_iload_n lk_221_205 rfl ?_
          refine g_bipush lk_221_206 ?_
          refine g_iload lk_221_208 rfl ?_
          refine g_imul lk_221_210 ?_
          refine g_aload_n lk_221_211 rfl ?_
          refine g_getfield lk_221_212 rfl (lay.on (by decide) rfl) (v := ((137 : Nat) : Int)) (lay.rf rfl) ?_
          refine g_iload lk_221_215 rfl ?_
          refine m_iaload (u := []) (M := N) lk_221_217 (lay.ay (by decide) rfl) (by omega) (j := r) (by omega) (v := (g r)) e37r ?_
          refine g_iadd lk_221_218 ?_
          have lay3 : Lay (Mu [(138, pm_upd (pm_ct N 138) k ((10 * (r : Int)) + (g r)))] N) := lay.muA (l := []) (a := 138) (f := pm_upd (pm_ct N 138) k ((10 * (r : Int)) + (g r))) rfl rfl
          refine m_iastore (u := []) (u' := [(138, pm_upd (pm_ct N 138) k ((10 * (r : Int)) + (g r)))]) (M := N) lk_221_219 (lay.ay (by decide) rfl) (by omega) (j := k) (by omega) rfl ?_
          refine g_iinc (ls' := [(2, ((116 : Nat) : Int)), (0, (p : Int)), (0, 1), (0, ((k : Int) + 1)), (0, z4), (0, (r : Int)), v6]) lk_221_220 rfl rfl rfl ?_
          refine g_iinc (ls' := [(2, ((116 : Nat) : Int)), (0, (p : Int)), (0, 1), (0, ((k : Int) + 1)), (0, z4), (0, ((r : Int) + 1)), v6]) lk_221_223 rfl rfl rfl ?_
          refine g_goto (t := 177) lk_221_226 rfl ?_
          rw [if_neg (by omega)] at es
          refine ih (r + 1) (k + 1) _ _ _ (by omega) (by rw [es, List.length_append, ← hk]; rfl) lay3 (hF.trans (MF.mu _ _ rfl (fun j hj => rfl))) (fun j h => by rw [Mu_ct]; exact hc j h) (fun j y h => ?_) hB
          rw [es] at h
          rw [Mu_ct]
          show pm_upd (pm_ct N 138) k _ j = _
          rcases app_get h with ⟨c1, c2⟩ | ⟨c1, c2⟩
          · rw [pm_upd_ne (by omega)]; exact hj j y c2
          · rw [c1, ← hk, pm_upd_eq, c2]; unfold nm; omega
  -- what is kept is as it was
  have k172 : ∀ (b : Nat) (z4 : Int) (v3 v5 v6 : pm_V) (N : pm_M), Lay N → MF [138, 139] [43] M N → pm_ct N 116 43 = (x : Int) → pm_ct N 138 = pm_ct M 138 → (∀ j, j ≤ 6 → pm_ct N 139 j = (cnt (V ++ [P]) j : Int)) → (b = 1 ∧ BestV (V ++ [P]) P ∨ b = 0 ∧ BestV (V ++ [P]) X ∧ p = x) → Wp d 221 172 [(2, ((116 : Nat) : Int)), (0, (p : Int)), (0, (b : Int)), v3, (0, z4), v5, v6] [] N mc ms Q := by
    intro b z4 v3 v5 v6 N lay hF h43 h138 hc hb
    have hM : MoAt N T := hM0.mf hF (by decide) (by decide) (by decide) (by decide)
    rcases hb with ⟨rfl, hB⟩ | ⟨rfl, hB, epx⟩
    · skip
      refine g_iconst lk_221_172 ?_
      refine g_istore_n (ls' := [(2, ((116 : Nat) : Int)), (0, (p : Int)), (0, ((1 : Nat) : Int)), (0, 0), (0, z4), v5, v6]) lk_221_173 rfl rfl ?_
      refine g_iconst lk_221_174 ?_
      refine g_istore (ls' := [(2, ((116 : Nat) : Int)), (0, (p : Int)), (0, ((1 : Nat) : Int)), (0, 0), (0, z4), (0, 0), v6]) lk_221_175 rfl rfl ?_
      exact copy (tR T) 0 0 z4 _ N (by omega) rfl lay hF hc (fun j y h => by cases h) hB
    · have k177 : Wp d 221 177 [(2, ((116 : Nat) : Int)), (0, (p : Int)), (0, 0), (0, 0), (0, z4), (0, 0), v6] [] N mc ms Q := by
        refine g_iload lk_221_177 rfl ?_
        refine g_aload_n lk_221_179 rfl ?_
        refine m_getfield (u := []) (M := N) lk_221_180 rfl (lay.on (by decide) rfl) (v := (tR T : Int)) hM.1 ?_
        refine g_icmp (t := 229) lk_221_183 rfl (by first | (unfold pm_inI; omega) | exact pm_and_in _ _ | exact pm_shr_in _ _ | exact pm_or_in _ _ | exact pm_xor_in _ _ | exact pm_shl_in _ _ | exact pm_cmp_in _ _ | exact pm_b8_in _ | (unfold pm_inI; split <;> omega)) (by first | (unfold pm_inI; omega) | exact pm_and_in _ _ | exact pm_shr_in _ _ | exact pm_or_in _ _ | exact pm_xor_in _ _ | exact pm_shl_in _ _ | exact pm_cmp_in _ _ | exact pm_b8_in _ | (unfold pm_inI; split <;> omega)) (fun h1 => ?_) (fun h1 => ?_)
        · replace h1 : (tR T : Int) ≤ 0 := h1
          refine g_aload_n lk_221_229 rfl ?_
          refine g_iload_n lk_221_230 rfl ?_
          have lay2 : Lay (Mu [(116, pm_upd (pm_ct N 116) 43 (p : Int))] N) := lay.muF (l := []) (a := 116) (k := 43) (z := (p : Int)) rfl rfl
          refine m_putfield (u := []) (u' := [(116, pm_upd (pm_ct N 116) 43 (p : Int))]) (M := N) lk_221_231 rfl (lay.on (by decide) rfl) (fun h => absurd h (by decide)) rfl ?_
          refine g_return lk_221_234 ?_
          rw [hQ]
          refine ⟨rfl, lay2, hF.trans (MF.mu _ _ rfl (fun j hj => upd_ne (by simpa using hj))), ⟨X, hB, by omega, X36, ?_, fun j y h => ?_⟩, fun j h => ?_⟩
          · rw [Mu_ct, ← ex, ← epx]; rfl
          · rw [Mu_ct]
            show pm_ct N 138 j = _
            rw [h138]; exact xn j y h
          · rw [Mu_ct]; exact hc j h
        · replace h1 : ¬ ((tR T : Int) ≤ 0) := h1
          refine g_iload_n lk_221_186 rfl ?_
          refine g_if (t := 229) lk_221_187 rfl (by first | (unfold pm_inI; omega) | exact pm_and_in _ _ | exact pm_shr_in _ _ | exact pm_or_in _ _ | exact pm_xor_in _ _ | exact pm_shl_in _ _ | exact pm_cmp_in _ _ | exact pm_b8_in _ | (unfold pm_inI; split <;> omega)) (fun _ => ?_) (fun h => absurd (show (0 : Int) = (0 : Int) by omega) h)
          refine g_aload_n lk_221_229 rfl ?_
          refine g_iload_n lk_221_230 rfl ?_
          have lay3 : Lay (Mu [(116, pm_upd (pm_ct N 116) 43 (p : Int))] N) := lay.muF (l := []) (a := 116) (k := 43) (z := (p : Int)) rfl rfl
          refine m_putfield (u := []) (u' := [(116, pm_upd (pm_ct N 116) 43 (p : Int))]) (M := N) lk_221_231 rfl (lay.on (by decide) rfl) (fun h => absurd h (by decide)) rfl ?_
          refine g_return lk_221_234 ?_
          rw [hQ]
          refine ⟨rfl, lay3, hF.trans (MF.mu _ _ rfl (fun j hj => upd_ne (by simpa using hj))), ⟨X, hB, by omega, X36, ?_, fun j y h => ?_⟩, fun j h => ?_⟩
          · rw [Mu_ct, ← ex, ← epx]; rfl
          · rw [Mu_ct]
            show pm_ct N 138 j = _
            rw [h138]; exact xn j y h
          · rw [Mu_ct]; exact hc j h
      refine g_iconst lk_221_172 ?_
      refine g_istore_n (ls' := [(2, ((116 : Nat) : Int)), (0, (p : Int)), (0, ((0 : Nat) : Int)), (0, 0), (0, z4), v5, v6]) lk_221_173 rfl rfl ?_
      refine g_iconst lk_221_174 ?_
      refine g_istore (ls' := [(2, ((116 : Nat) : Int)), (0, (p : Int)), (0, ((0 : Nat) : Int)), (0, 0), (0, z4), (0, 0), v6]) lk_221_175 rfl rfl ?_
      exact k177
  -- compared, once it is decided
  have shut : ∀ (n r b : Nat) (v6 : pm_V) (N : pm_M), r + n = tR T → Lay N → MF [138, 139] [43] M N → pm_ct N 116 43 = (x : Int) → pm_ct N 138 = pm_ct M 138 → (∀ j, j ≤ 6 → pm_ct N 139 j = (cnt (V ++ [P]) j : Int)) → (b = 1 ∧ BestV (V ++ [P]) P ∨ b = 0 ∧ BestV (V ++ [P]) X ∧ p = x) → ∀ k : Nat, k ≤ r → Wp d 221 89 [(2, ((116 : Nat) : Int)), (0, (p : Int)), (0, (b : Int)), (0, (k : Int)), (0, 0), (0, (r : Int)), v6] [] N mc ms Q := by
    intro n
    induction n with
    | zero =>
      intro r b v6 N hr lay hF h43 h138 hc hb k hk
      have hM : MoAt N T := hM0.mf hF (by decide) (by decide) (by decide) (by decide)
      refine g_iload lk_221_89 rfl ?_
      refine g_aload_n lk_221_91 rfl ?_
      refine m_getfield (u := []) (M := N) lk_221_92 rfl (lay.on (by decide) rfl) (v := (tR T : Int)) hM.1 ?_
      refine g_icmp (t := 172) lk_221_95 rfl (by first | (unfold pm_inI; omega) | exact pm_and_in _ _ | exact pm_shr_in _ _ | exact pm_or_in _ _ | exact pm_xor_in _ _ | exact pm_shl_in _ _ | exact pm_cmp_in _ _ | exact pm_b8_in _ | (unfold pm_inI; split <;> omega)) (by first | (unfold pm_inI; omega) | exact pm_and_in _ _ | exact pm_shr_in _ _ | exact pm_or_in _ _ | exact pm_xor_in _ _ | exact pm_shl_in _ _ | exact pm_cmp_in _ _ | exact pm_b8_in _ | (unfold pm_inI; split <;> omega)) (fun h1 => ?_) (fun h1 => ?_)
      · replace h1 : (tR T : Int) ≤ (r : Int) := h1
        exact k172 b _ _ _ _ N lay hF h43 h138 hc hb
      · replace h1 : ¬ ((tR T : Int) ≤ (r : Int)) := h1
        omega
    | succ n ih =>
      intro r b v6 N hr lay hF h43 h138 hc hb k hk
      have hM : MoAt N T := hM0.mf hF (by decide) (by decide) (by decide) (by decide)
      have e37r : pm_ct N 137 r = g r := by rw [eg, hF.ct (a := 137) (by decide) (by decide)]
      have hgr := hg r (by omega)
      refine g_iload lk_221_89 rfl ?_
      refine g_aload_n lk_221_91 rfl ?_
      refine m_getfield (u := []) (M := N) lk_221_92 rfl (lay.on (by decide) rfl) (v := (tR T : Int)) hM.1 ?_
      refine g_icmp (t := 172) lk_221_95 rfl (by first | (unfold pm_inI; omega) | exact pm_and_in _ _ | exact pm_shr_in _ _ | exact pm_or_in _ _ | exact pm_xor_in _ _ | exact pm_shl_in _ _ | exact pm_cmp_in _ _ | exact pm_b8_in _ | (unfold pm_inI; split <;> omega)) (by first | (unfold pm_inI; omega) | exact pm_and_in _ _ | exact pm_shr_in _ _ | exact pm_or_in _ _ | exact pm_xor_in _ _ | exact pm_shl_in _ _ | exact pm_cmp_in _ _ | exact pm_b8_in _ | (unfold pm_inI; split <;> omega)) (fun h1 => ?_) (fun h1 => ?_)
      · replace h1 : (tR T : Int) ≤ (r : Int) := h1
        omega
      · replace h1 : ¬ ((tR T : Int) ≤ (r : Int)) := h1
        refine g_aload_n lk_221_98 rfl ?_
        refine g_getfield lk_221_99 rfl (lay.on (by decide) rfl) (v := ((137 : Nat) : Int)) (lay.rf rfl) ?_
        refine g_iload lk_221_102 rfl ?_
        refine m_iaload (u := []) (M := N) lk_221_104 (lay.ay (by decide) rfl) (by omega) (j := r) (by omega) (v := (g r)) e37r ?_
        refine g_iconst lk_221_105 ?_
        refine g_icmp (t := 112) lk_221_106 rfl (by first | (unfold pm_inI; omega) | exact pm_and_in _ _ | exact pm_shr_in _ _ | exact pm_or_in _ _ | exact pm_xor_in _ _ | exact pm_shl_in _ _ | exact pm_cmp_in _ _ | exact pm_b8_in _ | (unfold pm_inI; split <;> omega)) (by first | (unfold pm_inI; omega) | exact pm_and_in _ _ | exact pm_shr_in _ _ | exact pm_or_in _ _ | exact pm_xor_in _ _ | exact pm_shl_in _ _ | exact pm_cmp_in _ _ | exact pm_b8_in _ | (unfold pm_inI; split <;> omega)) (fun h2 => ?_) (fun h2 => ?_)
        · replace h2 : ¬ (g r) = (-1) := h2
          refine g_bipush lk_221_112 ?_
          refine g_iload lk_221_114 rfl ?_
          refine g_imul lk_221_116 ?_
          refine g_aload_n lk_221_117 rfl ?_
          refine g_getfield lk_221_118 rfl (lay.on (by decide) rfl) (v := ((137 : Nat) : Int)) (lay.rf rfl) ?_
          refine g_iload lk_221_121 rfl ?_
          refine m_iaload (u := []) (M := N) lk_221_123 (lay.ay (by decide) rfl) (by omega) (j := r) (by omega) (v := (g r)) e37r ?_
          refine g_iadd lk_221_124 ?_
          refine g_istore (ls' := [(2, ((116 : Nat) : Int)), (0, (p : Int)), (0, (b : Int)), (0, (k : Int)), (0, 0), (0, (r : Int)), (0, ((10 * (r : Int)) + (g r)))]) lk_221_125 rfl rfl ?_
          refine g_iload lk_221_127 rfl ?_
          refine g_if (t := 163) lk_221_129 rfl (by first | (unfold pm_inI; omega) | exact pm_and_in _ _ | exact pm_shr_in _ _ | exact pm_or_in _ _ | exact pm_xor_in _ _ | exact pm_shl_in _ _ | exact pm_cmp_in _ _ | exact pm_b8_in _ | (unfold pm_inI; split <;> omega)) (fun _ => ?_) (fun h => absurd (show (0 : Int) = (0 : Int) by omega) h)
          refine g_iinc (ls' := [(2, ((116 : Nat) : Int)), (0, (p : Int)), (0, (b : Int)), (0, ((k : Int) + 1)), (0, 0), (0, (r : Int)), (0, ((10 * (r : Int)) + (g r)))]) lk_221_163 rfl rfl rfl ?_
          refine g_iinc (ls' := [(2, ((116 : Nat) : Int)), (0, (p : Int)), (0, (b : Int)), (0, ((k : Int) + 1)), (0, 0), (0, ((r : Int) + 1)), (0, ((10 * (r : Int)) + (g r)))]) lk_221_166 rfl rfl rfl ?_
          refine g_goto (t := 89) lk_221_169 rfl ?_
          exact ih (r + 1) b _ N (by omega) lay hF h43 h138 hc hb (k + 1) (by omega)
        · replace h2 : ¬ (¬ (g r) = (-1)) := h2
          refine g_goto (t := 166) lk_221_109 rfl ?_
          refine g_iinc (ls' := [(2, ((116 : Nat) : Int)), (0, (p : Int)), (0, (b : Int)), (0, (k : Int)), (0, 0), (0, ((r : Int) + 1)), v6]) lk_221_166 rfl rfl rfl ?_
          refine g_goto (t := 89) lk_221_169 rfl ?_
          exact ih (r + 1) b _ N (by omega) lay hF h43 h138 hc hb k (by omega)
  -- compared, as long as both are alike
  have mate : ∀ (n r k : Nat) (v6 : pm_V) (N : pm_M), r + n = tR T → k = (PL g r).length → p = x → PL g r = X.take k → Lay N → MF [138, 139] [43] M N → pm_ct N 116 43 = (x : Int) → pm_ct N 138 = pm_ct M 138 → (∀ j, j ≤ 6 → pm_ct N 139 j = (cnt (V ++ [P]) j : Int)) → Wp d 221 89 [(2, ((116 : Nat) : Int)), (0, (p : Int)), (0, 0), (0, (k : Int)), (0, 1), (0, (r : Int)), v6] [] N mc ms Q := by
    intro n
    induction n with
    | zero =>
      intro r k v6 N hr hk epx hpre lay hF h43 h138 hc
      have hM : MoAt N T := hM0.mf hF (by decide) (by decide) (by decide) (by decide)
      have er : r = tR T := by omega
      rw [er, ← eP] at hk hpre
      have eX : P = X := by rw [hpre, hk, ← ep, epx, ex, List.take_length]
      refine g_iload lk_221_89 rfl ?_
      refine g_aload_n lk_221_91 rfl ?_
      refine m_getfield (u := []) (M := N) lk_221_92 rfl (lay.on (by decide) rfl) (v := (tR T : Int)) hM.1 ?_
      refine g_icmp (t := 172) lk_221_95 rfl (by first | (unfold pm_inI; omega) | exact pm_and_in _ _ | exact pm_shr_in _ _ | exact pm_or_in _ _ | exact pm_xor_in _ _ | exact pm_shl_in _ _ | exact pm_cmp_in _ _ | exact pm_b8_in _ | (unfold pm_inI; split <;> omega)) (by first | (unfold pm_inI; omega) | exact pm_and_in _ _ | exact pm_shr_in _ _ | exact pm_or_in _ _ | exact pm_xor_in _ _ | exact pm_shl_in _ _ | exact pm_cmp_in _ _ | exact pm_b8_in _ | (unfold pm_inI; split <;> omega)) (fun h1 => ?_) (fun h1 => ?_)
      · replace h1 : (tR T : Int) ≤ (r : Int) := h1
        exact k172 0 _ _ _ _ N lay hF h43 h138 hc (Or.inr ⟨rfl, BestV_old hX (by omega) (fun _ => by rw [eX]; exact lx_refl _), epx⟩)
      · replace h1 : ¬ ((tR T : Int) ≤ (r : Int)) := h1
        omega
    | succ n ih =>
      intro r k v6 N hr hk epx hpre lay hF h43 h138 hc
      have hM : MoAt N T := hM0.mf hF (by decide) (by decide) (by decide) (by decide)
      have e37r : pm_ct N 137 r = g r := by rw [eg, hF.ct (a := 137) (by decide) (by decide)]
      have hgr := hg r (by omega)
      have es := PL_s g r
      have kl := PL_len g r
      by_cases hm : g r = -1
      · rw [if_pos hm] at es
        refine g_iload lk_221_89 rfl ?_
        refine g_aload_n lk_221_91 rfl ?_
        refine m_getfield (u := []) (M := N) lk_221_92 rfl (lay.on (by decide) rfl) (v := (tR T : Int)) hM.1 ?_
        refine g_icmp (t := 172) lk_221_95 rfl (by first | (unfold pm_inI; omega) | exact pm_and_in _ _ | exact pm_shr_in _ _ | exact pm_or_in _ _ | exact pm_xor_in _ _ | exact pm_shl_in _ _ | exact pm_cmp_in _ _ | exact pm_b8_in _ | (unfold pm_inI; split <;> omega)) (by first | (unfold pm_inI; omega) | exact pm_and_in _ _ | exact pm_shr_in _ _ | exact pm_or_in _ _ | exact pm_xor_in _ _ | exact pm_shl_in _ _ | exact pm_cmp_in _ _ | exact pm_b8_in _ | (unfold pm_inI; split <;> omega)) (fun h1 => ?_) (fun h1 => ?_)
        · replace h1 : (tR T : Int) ≤ (r : Int) := h1
          omega
        · replace h1 : ¬ ((tR T : Int) ≤ (r : Int)) := h1
          refine g_aload_n lk_221_98 rfl ?_
          refine g_getfield lk_221_99 rfl (lay.on (by decide) rfl) (v := ((137 : Nat) : Int)) (lay.rf rfl) ?_
          refine g_iload lk_221_102 rfl ?_
          refine m_iaload (u := []) (M := N) lk_221_104 (lay.ay (by decide) rfl) (by omega) (j := r) (by omega) (v := (-1)) (e37r.trans hm) ?_
          refine g_iconst lk_221_105 ?_
          refine g_icmp (t := 112) lk_221_106 rfl (by first | (unfold pm_inI; omega) | exact pm_and_in _ _ | exact pm_shr_in _ _ | exact pm_or_in _ _ | exact pm_xor_in _ _ | exact pm_shl_in _ _ | exact pm_cmp_in _ _ | exact pm_b8_in _ | (unfold pm_inI; split <;> omega)) (by first | (unfold pm_inI; omega) | exact pm_and_in _ _ | exact pm_shr_in _ _ | exact pm_or_in _ _ | exact pm_xor_in _ _ | exact pm_shl_in _ _ | exact pm_cmp_in _ _ | exact pm_b8_in _ | (unfold pm_inI; split <;> omega)) (fun h => absurd h (show ¬ (¬ (-1 : Int) = (-1 : Int)) by omega)) (fun _ => ?_)
          refine g_goto (t := 166) lk_221_109 rfl ?_
          refine g_iinc (ls' := [(2, ((116 : Nat) : Int)), (0, (p : Int)), (0, 0), (0, (k : Int)), (0, 1), (0, ((r : Int) + 1)), v6]) lk_221_166 rfl rfl rfl ?_
          refine g_goto (t := 89) lk_221_169 rfl ?_
          exact ih (r + 1) k _ N (by omega) (by rw [es]; exact hk) epx (by rw [es]; exact hpre) lay hF h43 h138 hc
      · rw [if_neg hm] at es
        have kx : k < X.length := by
          have m := PL_mono g (r + 1) n
          rw [show r + 1 + n = tR T by omega, ← eP, ← ep, es, List.length_append] at m
          have : [6 * r + (g r).toNat].length = 1 := rfl
          omega
        have hy : X[k]? = some X[k] := List.getElem?_eq_getElem kx
        obtain ⟨y, ey⟩ : ∃ y, y = X[k] := ⟨_, rfl⟩
        rw [← ey] at hy
        have y36 := X36 y (by rw [ey]; exact List.getElem_mem kx)
        have v138 : pm_ct N 138 k = (nm y : Int) := by rw [h138]; exact xn k y hy
        obtain ⟨c, hc0⟩ : ∃ c : Nat, g r = (c : Int) := ⟨(g r).toNat, by omega⟩
        rw [hc0] at hgr
        rw [hc0, Int.toNat_natCast] at es
        obtain ⟨z, ez⟩ : ∃ z, z = nm y := ⟨_, rfl⟩
        have z1 : z ≤ 55 := by rw [ez]; unfold nm; omega
        have zl : (10 * r + c < z ↔ 6 * r + c < y) ∧ (10 * r + c = z ↔ 6 * r + c = y) := by rw [ez]; unfold nm; omega
        rw [← ez] at v138
        have pl : (PL g (r + 1))[k]? = some (6 * r + c) := by rw [es, hk, List.getElem?_append_right (Nat.le_refl _), Nat.sub_self]; rfl
        have tk : (PL g (r + 1)).take k = X.take k := by rw [es, List.take_append_of_le_length (by omega), List.take_of_length_le (by omega)]; exact hpre
        have up := fun (h : ltx (PL g (r + 1)) X) => (ltx_PL (g := g) (X := X) (r + 1) n).1 h
        have dn := fun (h : ltx X (PL g (r + 1))) => (ltx_PL (g := g) (X := X) (r + 1) n).2 h
        rw [show r + 1 + n = tR T by omega, ← eP] at up dn
        refine g_iload lk_221_89 rfl ?_
        refine g_aload_n lk_221_91 rfl ?_
        refine m_getfield (u := []) (M := N) lk_221_92 rfl (lay.on (by decide) rfl) (v := (tR T : Int)) hM.1 ?_
        refine g_icmp (t := 172) lk_221_95 rfl (by first | (unfold pm_inI; omega) | exact pm_and_in _ _ | exact pm_shr_in _ _ | exact pm_or_in _ _ | exact pm_xor_in _ _ | exact pm_shl_in _ _ | exact pm_cmp_in _ _ | exact pm_b8_in _ | (unfold pm_inI; split <;> omega)) (by first | (unfold pm_inI; omega) | exact pm_and_in _ _ | exact pm_shr_in _ _ | exact pm_or_in _ _ | exact pm_xor_in _ _ | exact pm_shl_in _ _ | exact pm_cmp_in _ _ | exact pm_b8_in _ | (unfold pm_inI; split <;> omega)) (fun h1 => ?_) (fun h1 => ?_)
        · replace h1 : (tR T : Int) ≤ (r : Int) := h1
          omega
        · replace h1 : ¬ ((tR T : Int) ≤ (r : Int)) := h1
          refine g_aload_n lk_221_98 rfl ?_
          refine g_getfield lk_221_99 rfl (lay.on (by decide) rfl) (v := ((137 : Nat) : Int)) (lay.rf rfl) ?_
          refine g_iload lk_221_102 rfl ?_
          refine m_iaload (u := []) (M := N) lk_221_104 (lay.ay (by decide) rfl) (by omega) (j := r) (by omega) (v := (c : Int)) (e37r.trans hc0) ?_
          refine g_iconst lk_221_105 ?_
          refine g_icmp (t := 112) lk_221_106 rfl (by first | (unfold pm_inI; omega) | exact pm_and_in _ _ | exact pm_shr_in _ _ | exact pm_or_in _ _ | exact pm_xor_in _ _ | exact pm_shl_in _ _ | exact pm_cmp_in _ _ | exact pm_b8_in _ | (unfold pm_inI; split <;> omega)) (by first | (unfold pm_inI; omega) | exact pm_and_in _ _ | exact pm_shr_in _ _ | exact pm_or_in _ _ | exact pm_xor_in _ _ | exact pm_shl_in _ _ | exact pm_cmp_in _ _ | exact pm_b8_in _ | (unfold pm_inI; split <;> omega)) (fun h2 => ?_) (fun h2 => ?_)
          · replace h2 : ¬ (c : Int) = (-1) := h2
            refine g_bipush lk_221_112 ?_
            refine g_iload lk_221_114 rfl ?_
            refine g_imul lk_221_116 ?_
            refine g_aload_n lk_221_117 rfl ?_
            refine g_getfield lk_221_118 rfl (lay.on (by decide) rfl) (v := ((137 : Nat) : Int)) (lay.rf rfl) ?_
            refine g_iload lk_221_121 rfl ?_
            refine m_iaload (u := []) (M := N) lk_221_123 (lay.ay (by decide) rfl) (by omega) (j := r) (by omega) (v := (c : Int)) (e37r.trans hc0) ?_
            refine g_iadd lk_221_124 ?_
            refine g_istore (ls' := [(2, ((116 : Nat) : Int)), (0, (p : Int)), (0, 0), (0, (k : Int)), (0, 1), (0, (r : Int)), (0, ((10 * (r : Int)) + (c : Int)))]) lk_221_125 rfl rfl ?_
            refine g_iload lk_221_127 rfl ?_
            refine g_if (t := 163) lk_221_129 rfl (by first | (unfold pm_inI; omega) | exact pm_and_in _ _ | exact pm_shr_in _ _ | exact pm_or_in _ _ | exact pm_xor_in _ _ | exact pm_shl_in _ _ | exact pm_cmp_in _ _ | exact pm_b8_in _ | (unfold pm_inI; split <;> omega)) (fun h => absurd h (show ¬ ((1 : Int) = (0 : Int)) by omega)) (fun _ => ?_)
            refine g_iload lk_221_132 rfl ?_
            refine g_aload_n lk_221_134 rfl ?_
            refine g_getfield lk_221_135 rfl (lay.on (by decide) rfl) (v := ((138 : Nat) : Int)) (lay.rf rfl) ?_
            refine g_iload_n lk_221_138 rfl ?_
            refine m_iaload (u := []) (M := N) lk_221_139 (lay.ay (by decide) rfl) (by omega) (j := k) (by omega) (v := (z : Int)) v138 ?_
            refine g_icmp (t := 163) lk_221_140 rfl (by first | (unfold pm_inI; omega) | exact pm_and_in _ _ | exact pm_shr_in _ _ | exact pm_or_in _ _ | exact pm_xor_in _ _ | exact pm_shl_in _ _ | exact pm_cmp_in _ _ | exact pm_b8_in _ | (unfold pm_inI; split <;> omega)) (by first | (unfold pm_inI; omega) | exact pm_and_in _ _ | exact pm_shr_in _ _ | exact pm_or_in _ _ | exact pm_xor_in _ _ | exact pm_shl_in _ _ | exact pm_cmp_in _ _ | exact pm_b8_in _ | (unfold pm_inI; split <;> omega)) (fun h3 => ?_) (fun h3 => ?_)
            · replace h3 : ((10 * (r : Int)) + (c : Int)) = (z : Int) := h3
              refine g_iinc (ls' := [(2, ((116 : Nat) : Int)), (0, (p : Int)), (0, 0), (0, ((k : Int) + 1)), (0, 1), (0, (r : Int)), (0, ((10 * (r : Int)) + (c : Int)))]) lk_221_163 rfl rfl rfl ?_
              refine g_iinc (ls' := [(2, ((116 : Nat) : Int)), (0, (p : Int)), (0, 0), (0, ((k : Int) + 1)), (0, 1), (0, ((r : Int) + 1)), (0, ((10 * (r : Int)) + (c : Int)))]) lk_221_166 rfl rfl rfl ?_
              refine g_goto (t := 89) lk_221_169 rfl ?_
              have ee : 6 * r + c = y := by omega
              refine ih (r + 1) (k + 1) _ N (by omega) (by rw [es, List.length_append, ← hk]; rfl) epx ?_ lay hF h43 h138 hc
              rw [es, List.take_add_one, hy, ← hpre, ee]; rfl
            · replace h3 : ¬ (((10 * (r : Int)) + (c : Int)) = (z : Int)) := h3
              refine g_iconst lk_221_143 ?_
              refine g_istore (ls' := [(2, ((116 : Nat) : Int)), (0, (p : Int)), (0, 0), (0, (k : Int)), (0, 0), (0, (r : Int)), (0, ((10 * (r : Int)) + (c : Int)))]) lk_221_144 rfl rfl ?_
              refine g_iload lk_221_146 rfl ?_
              refine g_aload_n lk_221_148 rfl ?_
              refine g_getfield lk_221_149 rfl (lay.on (by decide) rfl) (v := ((138 : Nat) : Int)) (lay.rf rfl) ?_
              refine g_iload_n lk_221_152 rfl ?_
              refine m_iaload (u := []) (M := N) lk_221_153 (lay.ay (by decide) rfl) (by omega) (j := k) (by omega) (v := (z : Int)) v138 ?_
              refine g_icmp (t := 161) lk_221_154 rfl (by first | (unfold pm_inI; omega) | exact pm_and_in _ _ | exact pm_shr_in _ _ | exact pm_or_in _ _ | exact pm_xor_in _ _ | exact pm_shl_in _ _ | exact pm_cmp_in _ _ | exact pm_b8_in _ | (unfold pm_inI; split <;> omega)) (by first | (unfold pm_inI; omega) | exact pm_and_in _ _ | exact pm_shr_in _ _ | exact pm_or_in _ _ | exact pm_xor_in _ _ | exact pm_shl_in _ _ | exact pm_cmp_in _ _ | exact pm_b8_in _ | (unfold pm_inI; split <;> omega)) (fun h4 => ?_) (fun h4 => ?_)
              · replace h4 : (z : Int) ≤ ((10 * (r : Int)) + (c : Int)) := h4
                refine g_iconst lk_221_161 ?_
                refine g_istore_n (ls' := [(2, ((116 : Nat) : Int)), (0, (p : Int)), (0, 0), (0, (k : Int)), (0, 0), (0, (r : Int)), (0, ((10 * (r : Int)) + (c : Int)))]) lk_221_162 rfl rfl ?_
                refine g_iinc (ls' := [(2, ((116 : Nat) : Int)), (0, (p : Int)), (0, 0), (0, ((k : Int) + 1)), (0, 0), (0, (r : Int)), (0, ((10 * (r : Int)) + (c : Int)))]) lk_221_163 rfl rfl rfl ?_
                refine g_iinc (ls' := [(2, ((116 : Nat) : Int)), (0, (p : Int)), (0, 0), (0, ((k : Int) + 1)), (0, 0), (0, ((r : Int) + 1)), (0, ((10 * (r : Int)) + (c : Int)))]) lk_221_166 rfl rfl rfl ?_
                refine g_goto (t := 89) lk_221_169 rfl ?_
                have dd : y < 6 * r + c := by omega
                exact shut n (r + 1) 0 _ N (by omega) lay hF h43 h138 hc (Or.inr ⟨rfl, BestV_old hX (by omega) (fun _ => ltx_lx (dn ⟨k, y, 6 * r + c, tk.symm, hy, pl, dd⟩)), epx⟩) (k + 1) (by omega)
              · replace h4 : ¬ ((z : Int) ≤ ((10 * (r : Int)) + (c : Int))) := h4
                refine g_iconst lk_221_157 ?_
                refine g_goto (t := 162) lk_221_158 rfl ?_
                refine g_istore_n (ls' := [(2, ((116 : Nat) : Int)), (0, (p : Int)), (0, 1), (0, (k : Int)), (0, 0), (0, (r : Int)), (0, ((10 * (r : Int)) + (c : Int)))]) lk_221_162 rfl rfl ?_
                refine g_iinc (ls' := [(2, ((116 : Nat) : Int)), (0, (p : Int)), (0, 1), (0, ((k : Int) + 1)), (0, 0), (0, (r : Int)), (0, ((10 * (r : Int)) + (c : Int)))]) lk_221_163 rfl rfl rfl ?_
                refine g_iinc (ls' := [(2, ((116 : Nat) : Int)), (0, (p : Int)), (0, 1), (0, ((k : Int) + 1)), (0, 0), (0, ((r : Int) + 1)), (0, ((10 * (r : Int)) + (c : Int)))]) lk_221_166 rfl rfl rfl ?_
                refine g_goto (t := 89) lk_221_169 rfl ?_
                have dd : 6 * r + c < y := by omega
                exact shut n (r + 1) 1 _ N (by omega) lay hF h43 h138 hc (Or.inl ⟨rfl, BestV_new hX (by omega) (fun _ => ltx_lx (up ⟨k, 6 * r + c, y, tk, pl, hy, dd⟩))⟩) (k + 1) (by omega)
          · replace h2 : ¬ (¬ (c : Int) = (-1)) := h2
            refine g_goto (t := 166) lk_221_109 rfl ?_
            refine g_iinc (ls' := [(2, ((116 : Nat) : Int)), (0, (p : Int)), (0, 0), (0, (k : Int)), (0, 1), (0, ((r : Int) + 1)), v6]) lk_221_166 rfl rfl rfl ?_
            refine g_goto (t := 89) lk_221_169 rfl ?_
            omega
  have k36 : ∀ v2 v3 v4 v5 v6 : pm_V, Wp d 221 36 [(2, ((116 : Nat) : Int)), (0, (p : Int)), v2, v3, v4, v5, v6] [] M mc ms Q := by
    intro v2 v3 v4 v5 v6
    have v139 := hcn p (by omega)
    have cc : ∀ l : Lay (Mu [(139, pm_upd (pm_ct M 139) p ((cnt V p : Int) + 1))] M), MF [138, 139] [43] M (Mu [(139, pm_upd (pm_ct M 139) p ((cnt V p : Int) + 1))] M) := fun _ => MF.mu _ _ rfl (fun j hj => rfl)
    refine g_aload_n lk_221_36 rfl ?_
    refine g_getfield lk_221_37 rfl (lay0.on (by decide) rfl) (v := ((139 : Nat) : Int)) (lay0.rf rfl) ?_
    refine g_iload_n lk_221_40 rfl ?_
    refine g_dup2 lk_221_41 rfl rfl ?_
    refine m_iaload (u := []) (M := M) lk_221_42 (lay0.ay (by decide) rfl) (by omega) (j := p) (by omega) (v := (cnt V p : Int)) v139 ?_
    refine g_iconst lk_221_43 ?_
    refine g_iadd lk_221_44 ?_
    have lay1 : Lay (Mu [(139, pm_upd (pm_ct M 139) p ((cnt V p : Int) + 1))] M) := lay0.muA (l := []) (a := 139) (f := pm_upd (pm_ct M 139) p ((cnt V p : Int) + 1)) rfl rfl
    refine m_iastore (u := []) (u' := [(139, pm_upd (pm_ct M 139) p ((cnt V p : Int) + 1))]) (M := M) lk_221_45 (lay0.ay (by decide) rfl) (by omega) (j := p) (by omega) rfl ?_
    refine g_iload_n lk_221_46 rfl ?_
    refine g_aload_n lk_221_47 rfl ?_
    refine m_getfield (u := [(139, pm_upd (pm_ct M 139) p ((cnt V p : Int) + 1))]) (M := M) lk_221_48 rfl (lay1.on (by decide) rfl) (v := (x : Int)) x43 ?_
    refine g_icmp (t := 58) lk_221_51 rfl (by first | (unfold pm_inI; omega) | exact pm_and_in _ _ | exact pm_shr_in _ _ | exact pm_or_in _ _ | exact pm_xor_in _ _ | exact pm_shl_in _ _ | exact pm_cmp_in _ _ | exact pm_b8_in _ | (unfold pm_inI; split <;> omega)) (by first | (unfold pm_inI; omega) | exact pm_and_in _ _ | exact pm_shr_in _ _ | exact pm_or_in _ _ | exact pm_xor_in _ _ | exact pm_shl_in _ _ | exact pm_cmp_in _ _ | exact pm_b8_in _ | (unfold pm_inI; split <;> omega)) (fun h2 => ?_) (fun h2 => ?_)
    · replace h2 : (p : Int) ≤ (x : Int) := h2
      refine g_iconst lk_221_58 ?_
      refine g_istore_n (ls' := [(2, ((116 : Nat) : Int)), (0, (p : Int)), (0, 0), v3, v4, v5, v6]) lk_221_59 rfl rfl ?_
      refine g_iload_n lk_221_60 rfl ?_
      refine g_aload_n lk_221_61 rfl ?_
      refine m_getfield (u := [(139, pm_upd (pm_ct M 139) p ((cnt V p : Int) + 1))]) (M := M) lk_221_62 rfl (lay1.on (by decide) rfl) (v := (x : Int)) x43 ?_
      refine g_icmp (t := 72) lk_221_65 rfl (by first | (unfold pm_inI; omega) | exact pm_and_in _ _ | exact pm_shr_in _ _ | exact pm_or_in _ _ | exact pm_xor_in _ _ | exact pm_shl_in _ _ | exact pm_cmp_in _ _ | exact pm_b8_in _ | (unfold pm_inI; split <;> omega)) (by first | (unfold pm_inI; omega) | exact pm_and_in _ _ | exact pm_shr_in _ _ | exact pm_or_in _ _ | exact pm_xor_in _ _ | exact pm_shl_in _ _ | exact pm_cmp_in _ _ | exact pm_b8_in _ | (unfold pm_inI; split <;> omega)) (fun h3 => ?_) (fun h3 => ?_)
      · replace h3 : (p : Int) < (x : Int) := h3
        refine g_return lk_221_72 ?_
        rw [hQ]
        refine ⟨rfl, lay1, cc lay1, ⟨X, BestV_old hX (by omega) (fun e => by omega), by omega, X36, by rw [Mu_ct, ← ex]; exact x43, fun j y h => by rw [Mu_ct]; exact xn j y h⟩, fun j h => by rw [Mu_ct]; exact hcn' j h⟩
      · replace h3 : ¬ ((p : Int) < (x : Int)) := h3
        refine g_iload_n lk_221_68 rfl ?_
        refine g_if (t := 73) lk_221_69 rfl (by first | (unfold pm_inI; omega) | exact pm_and_in _ _ | exact pm_shr_in _ _ | exact pm_or_in _ _ | exact pm_xor_in _ _ | exact pm_shl_in _ _ | exact pm_cmp_in _ _ | exact pm_b8_in _ | (unfold pm_inI; split <;> omega)) (fun h4 => ?_) (fun h4 => ?_)
        · replace h4 : ¬ (p : Int) = 0 := h4
          refine g_iconst lk_221_73 ?_
          refine g_istore_n (ls' := [(2, ((116 : Nat) : Int)), (0, (p : Int)), (0, 0), (0, 0), v4, v5, v6]) lk_221_74 rfl rfl ?_
          refine g_iload_n lk_221_75 rfl ?_
          refine g_if (t := 83) lk_221_76 rfl (by first | (unfold pm_inI; omega) | exact pm_and_in _ _ | exact pm_shr_in _ _ | exact pm_or_in _ _ | exact pm_xor_in _ _ | exact pm_shl_in _ _ | exact pm_cmp_in _ _ | exact pm_b8_in _ | (unfold pm_inI; split <;> omega)) (fun h => absurd h (show ¬ (¬ (0 : Int) = (0 : Int)) by omega)) (fun _ => ?_)
          refine g_iconst lk_221_79 ?_
          refine g_goto (t := 84) lk_221_80 rfl ?_
          refine g_istore (ls' := [(2, ((116 : Nat) : Int)), (0, (p : Int)), (0, 0), (0, 0), (0, 1), v5, v6]) lk_221_84 rfl rfl ?_
          refine g_iconst lk_221_86 ?_
          refine g_istore (ls' := [(2, ((116 : Nat) : Int)), (0, (p : Int)), (0, 0), (0, 0), (0, 1), (0, 0), v6]) lk_221_87 rfl rfl ?_
          refine mate (tR T) 0 0 _ _ (by omega) rfl (by omega) rfl lay1 (cc lay1) (by rw [Mu_ct]; exact x43) (by rw [Mu_ct]; rfl) (fun j h => by rw [Mu_ct]; exact hcn' j h)
        · replace h4 : ¬ (¬ (p : Int) = 0) := h4
          refine g_return lk_221_72 ?_
          rw [hQ]
          refine ⟨rfl, lay1, cc lay1, ⟨X, BestV_old hX (by omega) (fun e => ?_), by omega, X36, by rw [Mu_ct, ← ex]; exact x43, fun j y h => by rw [Mu_ct]; exact xn j y h⟩, fun j h => by rw [Mu_ct]; exact hcn' j h⟩
          rw [List.length_eq_zero_iff.mp (by omega : X.length = 0)]; exact trivial
    · replace h2 : ¬ ((p : Int) ≤ (x : Int)) := h2
      refine g_iconst lk_221_54 ?_
      refine g_goto (t := 59) lk_221_55 rfl ?_
      refine g_istore_n (ls' := [(2, ((116 : Nat) : Int)), (0, (p : Int)), (0, 1), v3, v4, v5, v6]) lk_221_59 rfl rfl ?_
      refine g_iload_n lk_221_60 rfl ?_
      refine g_aload_n lk_221_61 rfl ?_
      refine m_getfield (u := [(139, pm_upd (pm_ct M 139) p ((cnt V p : Int) + 1))]) (M := M) lk_221_62 rfl (lay1.on (by decide) rfl) (v := (x : Int)) x43 ?_
      refine g_icmp (t := 72) lk_221_65 rfl (by first | (unfold pm_inI; omega) | exact pm_and_in _ _ | exact pm_shr_in _ _ | exact pm_or_in _ _ | exact pm_xor_in _ _ | exact pm_shl_in _ _ | exact pm_cmp_in _ _ | exact pm_b8_in _ | (unfold pm_inI; split <;> omega)) (by first | (unfold pm_inI; omega) | exact pm_and_in _ _ | exact pm_shr_in _ _ | exact pm_or_in _ _ | exact pm_xor_in _ _ | exact pm_shl_in _ _ | exact pm_cmp_in _ _ | exact pm_b8_in _ | (unfold pm_inI; split <;> omega)) (fun h5 => ?_) (fun h5 => ?_)
      · replace h5 : (p : Int) < (x : Int) := h5
        refine g_return lk_221_72 ?_
        omega
      · replace h5 : ¬ ((p : Int) < (x : Int)) := h5
        refine g_iload_n lk_221_68 rfl ?_
        refine g_if (t := 73) lk_221_69 rfl (by first | (unfold pm_inI; omega) | exact pm_and_in _ _ | exact pm_shr_in _ _ | exact pm_or_in _ _ | exact pm_xor_in _ _ | exact pm_shl_in _ _ | exact pm_cmp_in _ _ | exact pm_b8_in _ | (unfold pm_inI; split <;> omega)) (fun h6 => ?_) (fun h6 => ?_)
        · replace h6 : ¬ (p : Int) = 0 := h6
          refine g_iconst lk_221_73 ?_
          refine g_istore_n (ls' := [(2, ((116 : Nat) : Int)), (0, (p : Int)), (0, 1), (0, 0), v4, v5, v6]) lk_221_74 rfl rfl ?_
          refine g_iload_n lk_221_75 rfl ?_
          refine g_if (t := 83) lk_221_76 rfl (by first | (unfold pm_inI; omega) | exact pm_and_in _ _ | exact pm_shr_in _ _ | exact pm_or_in _ _ | exact pm_xor_in _ _ | exact pm_shl_in _ _ | exact pm_cmp_in _ _ | exact pm_b8_in _ | (unfold pm_inI; split <;> omega)) (fun _ => ?_) (fun h => absurd (show ¬ (1 : Int) = (0 : Int) by omega) h)
          refine g_iconst lk_221_83 ?_
          refine g_istore (ls' := [(2, ((116 : Nat) : Int)), (0, (p : Int)), (0, 1), (0, 0), (0, 0), v5, v6]) lk_221_84 rfl rfl ?_
          refine g_iconst lk_221_86 ?_
          refine g_istore (ls' := [(2, ((116 : Nat) : Int)), (0, (p : Int)), (0, 1), (0, 0), (0, 0), (0, 0), v6]) lk_221_87 rfl rfl ?_
          refine shut (tR T) 0 1 _ _ (by omega) lay1 (cc lay1) (by rw [Mu_ct]; exact x43) (by rw [Mu_ct]; rfl) (fun j h => by rw [Mu_ct]; exact hcn' j h) (Or.inl ⟨rfl, BestV_new hX (by omega) (fun e => by omega)⟩) 0 (by omega)
        · replace h6 : ¬ (¬ (p : Int) = 0) := h6
          refine g_return lk_221_72 ?_
          omega
  have l1 : ∀ (n r k : Nat), r + n = tR T → k = (PL g r).length → Wp d 221 4 [(2, ((116 : Nat) : Int)), (0, (k : Int)), (0, (r : Int)), (9, 0), (9, 0), (9, 0), (9, 0)] [] M mc ms Q := by
    intro n
    induction n with
    | zero =>
      intro r k hr hk
      have ek : k = p := by rw [hk, ep, eP, show r = tR T by omega]
      rw [ek]
      refine g_iload_n lk_221_4 rfl ?_
      refine g_aload_n lk_221_5 rfl ?_
      refine m_getfield (u := []) (M := M) lk_221_6 rfl (lay0.on (by decide) rfl) (v := (tR T : Int)) hM0.1 ?_
      refine g_icmp (t := 36) lk_221_9 rfl (by first | (unfold pm_inI; omega) | exact pm_and_in _ _ | exact pm_shr_in _ _ | exact pm_or_in _ _ | exact pm_xor_in _ _ | exact pm_shl_in _ _ | exact pm_cmp_in _ _ | exact pm_b8_in _ | (unfold pm_inI; split <;> omega)) (by first | (unfold pm_inI; omega) | exact pm_and_in _ _ | exact pm_shr_in _ _ | exact pm_or_in _ _ | exact pm_xor_in _ _ | exact pm_shl_in _ _ | exact pm_cmp_in _ _ | exact pm_b8_in _ | (unfold pm_inI; split <;> omega)) (fun h1 => ?_) (fun h1 => ?_)
      · replace h1 : (tR T : Int) ≤ (r : Int) := h1
        exact k36 _ _ _ _ _
      · replace h1 : ¬ ((tR T : Int) ≤ (r : Int)) := h1
        omega
    | succ n ih =>
      intro r k hr hk
      have hgr := hg r (by omega)
      have es := PL_s g r
      have e37r : pm_ct M 137 r = g r := by rw [eg]
      refine g_iload_n lk_221_4 rfl ?_
      refine g_aload_n lk_221_5 rfl ?_
      refine m_getfield (u := []) (M := M) lk_221_6 rfl (lay0.on (by decide) rfl) (v := (tR T : Int)) hM0.1 ?_
      refine g_icmp (t := 36) lk_221_9 rfl (by first | (unfold pm_inI; omega) | exact pm_and_in _ _ | exact pm_shr_in _ _ | exact pm_or_in _ _ | exact pm_xor_in _ _ | exact pm_shl_in _ _ | exact pm_cmp_in _ _ | exact pm_b8_in _ | (unfold pm_inI; split <;> omega)) (by first | (unfold pm_inI; omega) | exact pm_and_in _ _ | exact pm_shr_in _ _ | exact pm_or_in _ _ | exact pm_xor_in _ _ | exact pm_shl_in _ _ | exact pm_cmp_in _ _ | exact pm_b8_in _ | (unfold pm_inI; split <;> omega)) (fun h1 => ?_) (fun h1 => ?_)
      · replace h1 : (tR T : Int) ≤ (r : Int) := h1
        omega
      · replace h1 : ¬ ((tR T : Int) ≤ (r : Int)) := h1
        refine g_iload_n lk_221_12 rfl ?_
        refine g_aload_n lk_221_13 rfl ?_
        refine g_getfield lk_221_14 rfl (lay0.on (by decide) rfl) (v := ((137 : Nat) : Int)) (lay0.rf rfl) ?_
        refine g_iload_n lk_221_17 rfl ?_
        refine m_iaload (u := []) (M := M) lk_221_18 (lay0.ay (by decide) rfl) (by omega) (j := r) (by omega) (v := (g r)) e37r ?_
        refine g_iconst lk_221_19 ?_
        refine g_icmp (t := 27) lk_221_20 rfl (by first | (unfold pm_inI; omega) | exact pm_and_in _ _ | exact pm_shr_in _ _ | exact pm_or_in _ _ | exact pm_xor_in _ _ | exact pm_shl_in _ _ | exact pm_cmp_in _ _ | exact pm_b8_in _ | (unfold pm_inI; split <;> omega)) (by first | (unfold pm_inI; omega) | exact pm_and_in _ _ | exact pm_shr_in _ _ | exact pm_or_in _ _ | exact pm_xor_in _ _ | exact pm_shl_in _ _ | exact pm_cmp_in _ _ | exact pm_b8_in _ | (unfold pm_inI; split <;> omega)) (fun h2 => ?_) (fun h2 => ?_)
        · replace h2 : ¬ (g r) = (-1) := h2
          refine g_iconst lk_221_27 ?_
          refine g_iadd lk_221_28 ?_
          refine g_istore_n (ls' := [(2, ((116 : Nat) : Int)), (0, ((k : Int) + 1)), (0, (r : Int)), (9, 0), (9, 0), (9, 0), (9, 0)]) lk_221_29 rfl rfl ?_
          refine g_iinc (ls' := [(2, ((116 : Nat) : Int)), (0, ((k : Int) + 1)), (0, ((r : Int) + 1)), (9, 0), (9, 0), (9, 0), (9, 0)]) lk_221_30 rfl rfl rfl ?_
          refine g_goto (t := 4) lk_221_33 rfl ?_
          rw [if_neg (by omega)] at es
          exact ih (r + 1) (k + 1) (by omega) (by rw [es, List.length_append, ← hk]; rfl)
        · replace h2 : ¬ (¬ (g r) = (-1)) := h2
          refine g_iconst lk_221_23 ?_
          refine g_goto (t := 28) lk_221_24 rfl ?_
          refine g_iadd lk_221_28 ?_
          refine g_istore_n (ls' := [(2, ((116 : Nat) : Int)), (0, ((k : Int) + 0)), (0, (r : Int)), (9, 0), (9, 0), (9, 0), (9, 0)]) lk_221_29 rfl rfl ?_
          refine g_iinc (ls' := [(2, ((116 : Nat) : Int)), (0, ((k : Int) + 0)), (0, ((r : Int) + 1)), (9, 0), (9, 0), (9, 0), (9, 0)]) lk_221_30 rfl rfl rfl ?_
          refine g_goto (t := 4) lk_221_33 rfl ?_
          rw [if_pos (by omega)] at es
          have := ih (r + 1) k (by omega) (by rw [es, ← hk])
          rw [Int.add_zero]
          exact this
  show Wp d 221 0 [(2, ((116 : Nat) : Int)), (9, 0), (9, 0), (9, 0), (9, 0), (9, 0), (9, 0)] [] M mc ms Q
  refine g_iconst lk_221_0 ?_
  refine g_istore_n (ls' := [(2, ((116 : Nat) : Int)), (0, 0), (9, 0), (9, 0), (9, 0), (9, 0), (9, 0)]) lk_221_1 rfl rfl ?_
  refine g_iconst lk_221_2 ?_
  refine g_istore_n (ls' := [(2, ((116 : Nat) : Int)), (0, 0), (0, 0), (9, 0), (9, 0), (9, 0), (9, 0)]) lk_221_3 rfl rfl ?_
  exact l1 (tR T) 0 0 (by omega) rfl
