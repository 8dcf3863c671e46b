/-! ===== conflict ===== -/
def cfP (T : Tab) (b : Bool) (o p i : Nat) : Bool := if b then clash (tX T (6 * i + o)) (tX T (6 * i + p)) else clash (tX T (6 * o + i)) (tX T (6 * p + i))
def cfW (T : Tab) (b : Bool) : Nat := if b then tC T else tR T
def cfA (T : Tab) (b : Bool) : Nat := if b then tR T else tC T
def sConf (T : Tab) (b : Bool) (o p : Int) : Int := if (0 ≤ o ∧ o < cfW T b) ∧ (0 ≤ p ∧ p < cfW T b) then ffr (cfP T b o.toNat p.toNat) (cfA T b) 0 else -1
theorem ffr_s (P : Nat → Bool) (n i : Nat) : ffr P (n + 1) i = if P i then (i : Int) else ffr P n (i + 1) := rfl
theorem clash_of {a b : Nat} (h : ¬ (a = b) ∧ ¬ (a = 10) ∧ ¬ (b = 10)) : clash a b = true := by unfold clash; simp [h.1, h.2.1, h.2.2]
theorem clash_no {a b : Nat} (h : a = b ∨ a = 10 ∨ b = 10) : clash a b = false := by unfold clash; rcases h with h | h | h <;> simp [h]
theorem c_Mo_areUnlike {d mc ms : Nat} {M : pm_M} {p : Nat} {a b : Nat} (ha : a ≤ 10) (hb : b ≤ 10) :
    pm_E d 216 [(2, ((p : Nat) : Int)), (0, (a : Int)), (0, (b : Int))] M mc ms (fun ρ M' => ρ = some (0, if clash a b then 1 else 0) ∧ M' = M) := by
  show Wp d 216 0 [(2, ((p : Nat) : Int)), (0, (a : Int)), (0, (b : Int))] [] M mc ms _
  refine g_iload_n lk_216_0 rfl ?_
  refine g_bipush lk_216_1 ?_
  refine g_icmp (t := 21) lk_216_3 rfl (by first | (unfold pm_inI; omega) | exact pm_and_in _ _ | exact pm_shr_in _ _ | exact pm_or_in _ _ | exact pm_xor_in _ _ | exact pm_shl_in _ _ | exact pm_cmp_in _ _ | exact pm_b8_in _ | (unfold pm_inI; split <;> omega)) (by first | (unfold pm_inI; omega) | exact pm_and_in _ _ | exact pm_shr_in _ _ | exact pm_or_in _ _ | exact pm_xor_in _ _ | exact pm_shl_in _ _ | exact pm_cmp_in _ _ | exact pm_b8_in _ | (unfold pm_inI; split <;> omega)) (fun h1 => ?_) (fun h1 => ?_)
  · replace h1 : (a : Int) = 10 := h1
    refine g_iconst lk_216_21 ?_
    refine g_ireturn lk_216_22 (fun _ => by omega) ?_
    exact ⟨by rw [clash_no (by omega)]; rfl, rfl⟩
  · replace h1 : ¬ ((a : Int) = 10) := h1
    refine g_iload_n lk_216_6 rfl ?_
    refine g_bipush lk_216_7 ?_
    refine g_icmp (t := 21) lk_216_9 rfl (by first | (unfold pm_inI; omega) | exact pm_and_in _ _ | exact pm_shr_in _ _ | exact pm_or_in _ _ | exact pm_xor_in _ _ | exact pm_shl_in _ _ | exact pm_cmp_in _ _ | exact pm_b8_in _ | (unfold pm_inI; split <;> omega)) (by first | (unfold pm_inI; omega) | exact pm_and_in _ _ | exact pm_shr_in _ _ | exact pm_or_in _ _ | exact pm_xor_in _ _ | exact pm_shl_in _ _ | exact pm_cmp_in _ _ | exact pm_b8_in _ | (unfold pm_inI; split <;> omega)) (fun h2 => ?_) (fun h2 => ?_)
    · replace h2 : (b : Int) = 10 := h2
      refine g_iconst lk_216_21 ?_
      refine g_ireturn lk_216_22 (fun _ => by omega) ?_
      exact ⟨by rw [clash_no (by omega)]; rfl, rfl⟩
    · replace h2 : ¬ ((b : Int) = 10) := h2
      refine g_iload_n lk_216_12 rfl ?_
      refine g_iload_n lk_216_13 rfl ?_
      refine g_icmp (t := 21) lk_216_14 rfl (by first | (unfold pm_inI; omega) | exact pm_and_in _ _ | exact pm_shr_in _ _ | exact pm_or_in _ _ | exact pm_xor_in _ _ | exact pm_shl_in _ _ | exact pm_cmp_in _ _ | exact pm_b8_in _ | (unfold pm_inI; split <;> omega)) (by first | (unfold pm_inI; omega) | exact pm_and_in _ _ | exact pm_shr_in _ _ | exact pm_or_in _ _ | exact pm_xor_in _ _ | exact pm_shl_in _ _ | exact pm_cmp_in _ _ | exact pm_b8_in _ | (unfold pm_inI; split <;> omega)) (fun h3 => ?_) (fun h3 => ?_)
      · replace h3 : (a : Int) = (b : Int) := h3
        refine g_iconst lk_216_21 ?_
        refine g_ireturn lk_216_22 (fun _ => by omega) ?_
        exact ⟨by rw [clash_no (by omega)]; rfl, rfl⟩
      · replace h3 : ¬ ((a : Int) = (b : Int)) := h3
        refine g_iconst lk_216_17 ?_
        refine g_goto (t := 22) lk_216_18 rfl ?_
        refine g_ireturn lk_216_22 (fun _ => by omega) ?_
        exact ⟨by rw [clash_of (by omega)]; rfl, rfl⟩
set_option maxHeartbeats 4000000 in
theorem c_Table_firstClash1 {d mc ms : Nat} {M : pm_M} (lay : Lay M) {t : Nat} (ht : t = 4 ∨ t = 24) {T : Tab} (hT : TabOK T) (hM : TbAt M t T) {o p : Int} (ho : pm_inI o) (hp : pm_inI p) :
    pm_E (d + 1) 93 [(2, ((t : Nat) : Int)), (0, 1), (0, o), (0, p)] M mc ms (fun ρ M' => ρ = some (0, sConf T true o p) ∧ M' = M) := by
  obtain ⟨Q, hQ⟩ : ∃ Q : pm_Q, Q = (fun ρ M' => ρ = some (0, sConf T true o p) ∧ M' = M) := ⟨_, rfl⟩
  rw [← hQ]
  have hR := hT.1
  have hC := hT.2.1
  have ho' := ho
  have hp' := hp
  unfold pm_inI at ho' hp'
  show Wp (d + 1) 93 0 [(2, ((t : Nat) : Int)), (0, 1), (0, o), (0, p), (9, 0), (9, 0), (9, 0), (9, 0), (9, 0)] [] M mc ms Q
  by_cases hin : (0 ≤ o ∧ o < (tC T : Int)) ∧ (0 ≤ p ∧ p < (tC T : Int))
  · obtain ⟨o, rfl⟩ := Int.eq_ofNat_of_zero_le hin.1.1
    obtain ⟨p, rfl⟩ := Int.eq_ofNat_of_zero_le hin.2.1
    have hans : sConf T true (o : Int) (p : Int) = ffr (cfP T true o p) (tR T) 0 := if_pos hin
    have loop : ∀ (n i : Nat) (v7 v8 : pm_V), i + n = tR T → sConf T true (o : Int) (p : Int) = ffr (cfP T true o p) n i → Wp (d + 1) 93 59 [(2, ((t : Nat) : Int)), (0, 1), (0, (o : Int)), (0, (p : Int)), (0, (tC T : Int)), (0, (tR T : Int)), (0, (i : Int)), v7, v8] [] M mc ms Q := by
      intro n
      induction n with
      | zero =>
        intro i v7 v8 hi he
        refine g_iload lk_93_59 rfl ?_
        refine g_iload lk_93_61 rfl ?_
        refine g_icmp (t := 142) lk_93_63 rfl (by first | (unfold pm_inI; omega) | exact pm_and_in _ _ | exact pm_shr_in _ _ | exact pm_or_in _ _ | exact pm_xor_in _ _ | exact pm_shl_in _ _ | exact pm_cmp_in _ _ | exact pm_b8_in _ | (unfold pm_inI; split <;> omega)) (by first | (unfold pm_inI; omega) | exact pm_and_in _ _ | exact pm_shr_in _ _ | exact pm_or_in _ _ | exact pm_xor_in _ _ | exact pm_shl_in _ _ | exact pm_cmp_in _ _ | exact pm_b8_in _ | (unfold pm_inI; split <;> omega)) (fun h1 => ?_) (fun h1 => ?_)
        · replace h1 : (tR T : Int) ≤ (i : Int) := h1
          refine g_iconst lk_93_142 ?_
          refine g_ireturn lk_93_143 (fun h => absurd h (by decide)) ?_
          rw [hQ, he]
          exact ⟨rfl, rfl⟩
        · replace h1 : ¬ ((tR T : Int) ≤ (i : Int)) := h1
          refine g_iload_n lk_93_66 rfl ?_
          refine g_if (t := 80) lk_93_67 rfl (by first | (unfold pm_inI; omega) | exact pm_and_in _ _ | exact pm_shr_in _ _ | exact pm_or_in _ _ | exact pm_xor_in _ _ | exact pm_shl_in _ _ | exact pm_cmp_in _ _ | exact pm_b8_in _ | (unfold pm_inI; split <;> omega)) (fun h => absurd h (show ¬ ((1 : Int) = (0 : Int)) by omega)) (fun _ => ?_)
          refine g_aload_n lk_93_70 rfl ?_
          refine g_iload lk_93_71 rfl ?_
          refine g_iload_n lk_93_73 rfl ?_
          omega
      | succ n ih =>
        intro i v7 v8 hi he
        have e := ffr_s (cfP T true o p) n i
        have hx1 := hT.2.2.1 (6 * i + o)
        have hx2 := hT.2.2.1 (6 * i + p)
        have hP : cfP T true o p i = clash (tX T (6 * i + o)) (tX T (6 * i + p)) := rfl
        refine g_iload lk_93_59 rfl ?_
        refine g_iload lk_93_61 rfl ?_
        refine g_icmp (t := 142) lk_93_63 rfl (by first | (unfold pm_inI; omega) | exact pm_and_in _ _ | exact pm_shr_in _ _ | exact pm_or_in _ _ | exact pm_xor_in _ _ | exact pm_shl_in _ _ | exact pm_cmp_in _ _ | exact pm_b8_in _ | (unfold pm_inI; split <;> omega)) (by first | (unfold pm_inI; omega) | exact pm_and_in _ _ | exact pm_shr_in _ _ | exact pm_or_in _ _ | exact pm_xor_in _ _ | exact pm_shl_in _ _ | exact pm_cmp_in _ _ | exact pm_b8_in _ | (unfold pm_inI; split <;> omega)) (fun h1 => ?_) (fun h1 => ?_)
        · replace h1 : (tR T : Int) ≤ (i : Int) := h1
          refine g_iconst lk_93_142 ?_
          refine g_ireturn lk_93_143 (fun h => absurd h (by decide)) ?_
          omega
        · replace h1 : ¬ ((tR T : Int) ≤ (i : Int)) := h1
          refine g_iload_n lk_93_66 rfl ?_
          refine g_if (t := 80) lk_93_67 rfl (by first | (unfold pm_inI; omega) | exact pm_and_in _ _ | exact pm_shr_in _ _ | exact pm_or_in _ _ | exact pm_xor_in _ _ | exact pm_shl_in _ _ | exact pm_cmp_in _ _ | exact pm_b8_in _ | (unfold pm_inI; split <;> omega)) (fun h => absurd h (show ¬ ((1 : Int) = (0 : Int)) by omega)) (fun _ => ?_)
          refine g_aload_n lk_93_70 rfl ?_
          refine g_iload lk_93_71 rfl ?_
          refine g_iload_n lk_93_73 rfl ?_
          refine g_virtual (p := t) (Qc := _) lk_93_74 rfl (Nat.le_of_ble_eq_true rfl) rfl rfl (lay.tb ht).1 (Nat.le_of_ble_eq_true rfl) (Nat.le_of_ble_eq_true rfl) (Nat.zero_le _) (Nat.zero_le _) (c_Table_at lay ht hM (by omega) (by omega)) ?_
          rintro _ N2 ⟨rfl, hN2⟩
          rw [hN2]
          show Wp _ 93 77 [(2, ((t : Nat) : Int)), (0, 1), (0, (o : Int)), (0, (p : Int)), (0, (tC T : Int)), (0, (tR T : Int)), (0, (i : Int)), v7, v8] [(0, (tX T (6 * i + o) : Int))] M _ _ _
          refine g_goto (t := 87) lk_93_77 rfl ?_
          refine g_istore (ls' := [(2, ((t : Nat) : Int)), (0, 1), (0, (o : Int)), (0, (p : Int)), (0, (tC T : Int)), (0, (tR T : Int)), (0, (i : Int)), (0, (tX T (6 * i + o) : Int)), v8]) lk_93_87 rfl rfl ?_
          refine g_iload_n lk_93_89 rfl ?_
          refine g_if (t := 103) lk_93_90 rfl (by first | (unfold pm_inI; omega) | exact pm_and_in _ _ | exact pm_shr_in _ _ | exact pm_or_in _ _ | exact pm_xor_in _ _ | exact pm_shl_in _ _ | exact pm_cmp_in _ _ | exact pm_b8_in _ | (unfold pm_inI; split <;> omega)) (fun h => absurd h (show ¬ ((1 : Int) = (0 : Int)) by omega)) (fun _ => ?_)
          refine g_aload_n lk_93_93 rfl ?_
          refine g_iload lk_93_94 rfl ?_
          refine g_iload_n lk_93_96 rfl ?_
          refine g_virtual (p := t) (Qc := _) lk_93_97 rfl (Nat.le_of_ble_eq_true rfl) rfl rfl (lay.tb ht).1 (Nat.le_of_ble_eq_true rfl) (Nat.le_of_ble_eq_true rfl) (Nat.zero_le _) (Nat.zero_le _) (c_Table_at lay ht hM (by omega) (by omega)) ?_
          rintro _ N3 ⟨rfl, hN3⟩
          rw [hN3]
          show Wp _ 93 100 [(2, ((t : Nat) : Int)), (0, 1), (0, (o : Int)), (0, (p : Int)), (0, (tC T : Int)), (0, (tR T : Int)), (0, (i : Int)), (0, (tX T (6 * i + o) : Int)), v8] [(0, (tX T (6 * i + p) : Int))] M _ _ _
          refine g_goto (t := 110) lk_93_100 rfl ?_
          refine g_istore (ls' := [(2, ((t : Nat) : Int)), (0, 1), (0, (o : Int)), (0, (p : Int)), (0, (tC T : Int)), (0, (tR T : Int)), (0, (i : Int)), (0, (tX T (6 * i + o) : Int)), (0, (tX T (6 * i + p) : Int))]) lk_93_110 rfl rfl ?_
          refine g_iload lk_93_112 rfl ?_
          refine g_iload lk_93_114 rfl ?_
          refine g_icmp (t := 136) lk_93_116 rfl (by first | (unfold pm_inI; omega) | exact pm_and_in _ _ | exact pm_shr_in _ _ | exact pm_or_in _ _ | exact pm_xor_in _ _ | exact pm_shl_in _ _ | exact pm_cmp_in _ _ | exact pm_b8_in _ | (unfold pm_inI; split <;> omega)) (by first | (unfold pm_inI; omega) | exact pm_and_in _ _ | exact pm_shr_in _ _ | exact pm_or_in _ _ | exact pm_xor_in _ _ | exact pm_shl_in _ _ | exact pm_cmp_in _ _ | exact pm_b8_in _ | (unfold pm_inI; split <;> omega)) (fun h4 => ?_) (fun h4 => ?_)
          · replace h4 : (tX T (6 * i + o) : Int) = (tX T (6 * i + p) : Int) := h4
            refine g_iinc (ls' := [(2, ((t : Nat) : Int)), (0, 1), (0, (o : Int)), (0, (p : Int)), (0, (tC T : Int)), (0, (tR T : Int)), (0, ((i : Int) + 1)), (0, (tX T (6 * i + o) : Int)), (0, (tX T (6 * i + p) : Int))]) lk_93_136 rfl rfl rfl ?_
            refine g_goto (t := 59) lk_93_139 rfl ?_
            rw [hP, clash_no (by omega)] at e
            exact ih (i + 1) _ _ (by omega) (he.trans e)
          · replace h4 : ¬ ((tX T (6 * i + o) : Int) = (tX T (6 * i + p) : Int)) := h4
            refine g_iload lk_93_119 rfl ?_
            refine g_bipush lk_93_121 ?_
            refine g_icmp (t := 136) lk_93_123 rfl (by first | (unfold pm_inI; omega) | exact pm_and_in _ _ | exact pm_shr_in _ _ | exact pm_or_in _ _ | exact pm_xor_in _ _ | exact pm_shl_in _ _ | exact pm_cmp_in _ _ | exact pm_b8_in _ | (unfold pm_inI; split <;> omega)) (by first | (unfold pm_inI; omega) | exact pm_and_in _ _ | exact pm_shr_in _ _ | exact pm_or_in _ _ | exact pm_xor_in _ _ | exact pm_shl_in _ _ | exact pm_cmp_in _ _ | exact pm_b8_in _ | (unfold pm_inI; split <;> omega)) (fun h5 => ?_) (fun h5 => ?_)
            · replace h5 : (tX T (6 * i + o) : Int) = 10 := h5
              refine g_iinc (ls' := [(2, ((t : Nat) : Int)), (0, 1), (0, (o : Int)), (0, (p : Int)), (0, (tC T : Int)), (0, (tR T : Int)), (0, ((i : Int) + 1)), (0, (tX T (6 * i + o) : Int)), (0, (tX T (6 * i + p) : Int))]) lk_93_136 rfl rfl rfl ?_
              refine g_goto (t := 59) lk_93_139 rfl ?_
              rw [hP, clash_no (by omega)] at e
              exact ih (i + 1) _ _ (by omega) (he.trans e)
            · replace h5 : ¬ ((tX T (6 * i + o) : Int) = 10) := h5
              refine g_iload lk_93_126 rfl ?_
              refine g_bipush lk_93_128 ?_
              refine g_icmp (t := 136) lk_93_130 rfl (by first | (unfold pm_inI; omega) | exact pm_and_in _ _ | exact pm_shr_in _ _ | exact pm_or_in _ _ | exact pm_xor_in _ _ | exact pm_shl_in _ _ | exact pm_cmp_in _ _ | exact pm_b8_in _ | (unfold pm_inI; split <;> omega)) (by first | (unfold pm_inI; omega) | exact pm_and_in _ _ | exact pm_shr_in _ _ | exact pm_or_in _ _ | exact pm_xor_in _ _ | exact pm_shl_in _ _ | exact pm_cmp_in _ _ | exact pm_b8_in _ | (unfold pm_inI; split <;> omega)) (fun h6 => ?_) (fun h6 => ?_)
              · replace h6 : (tX T (6 * i + p) : Int) = 10 := h6
                refine g_iinc (ls' := [(2, ((t : Nat) : Int)), (0, 1), (0, (o : Int)), (0, (p : Int)), (0, (tC T : Int)), (0, (tR T : Int)), (0, ((i : Int) + 1)), (0, (tX T (6 * i + o) : Int)), (0, (tX T (6 * i + p) : Int))]) lk_93_136 rfl rfl rfl ?_
                refine g_goto (t := 59) lk_93_139 rfl ?_
                rw [hP, clash_no (by omega)] at e
                exact ih (i + 1) _ _ (by omega) (he.trans e)
              · replace h6 : ¬ ((tX T (6 * i + p) : Int) = 10) := h6
                refine g_iload lk_93_133 rfl ?_
                refine g_ireturn lk_93_135 (fun h => absurd h (by decide)) ?_
                rw [hP, clash_of (by omega)] at e
                rw [hQ, he.trans e]
                exact ⟨rfl, rfl⟩
    refine g_iload_n lk_93_0 rfl ?_
    refine g_if (t := 11) lk_93_1 rfl (by first | (unfold pm_inI; omega) | exact pm_and_in _ _ | exact pm_shr_in _ _ | exact pm_or_in _ _ | exact pm_xor_in _ _ | exact pm_shl_in _ _ | exact pm_cmp_in _ _ | exact pm_b8_in _ | (unfold pm_inI; split <;> omega)) (fun h => absurd h (show ¬ ((1 : Int) = (0 : Int)) by omega)) (fun _ => ?_)
    refine g_aload_n lk_93_4 rfl ?_
    refine g_getfield lk_93_5 rfl (lay.tb ht).1 (v := (tC T : Int)) hM.2.1 ?_
    refine g_goto (t := 15) lk_93_8 rfl ?_
    refine g_istore (ls' := [(2, ((t : Nat) : Int)), (0, 1), (0, (o : Int)), (0, (p : Int)), (0, (tC T : Int)), (9, 0), (9, 0), (9, 0), (9, 0)]) lk_93_15 rfl rfl ?_
    refine g_iload_n lk_93_17 rfl ?_
    refine g_if (t := 37) lk_93_18 rfl (by first | (unfold pm_inI; omega) | exact pm_and_in _ _ | exact pm_shr_in _ _ | exact pm_or_in _ _ | exact pm_xor_in _ _ | exact pm_shl_in _ _ | exact pm_cmp_in _ _ | exact pm_b8_in _ | (unfold pm_inI; split <;> omega)) (fun h1 => ?_) (fun h1 => ?_)
    · replace h1 : (o : Int) < 0 := h1
      refine g_iconst lk_93_37 ?_
      refine g_ireturn lk_93_38 (fun h => absurd h (by decide)) ?_
      exfalso; omega
    · replace h1 : ¬ ((o : Int) < 0) := h1
      refine g_iload_n lk_93_21 rfl ?_
      refine g_iload lk_93_22 rfl ?_
      refine g_icmp (t := 37) lk_93_24 rfl (by first | (unfold pm_inI; omega) | exact pm_and_in _ _ | exact pm_shr_in _ _ | exact pm_or_in _ _ | exact pm_xor_in _ _ | exact pm_shl_in _ _ | exact pm_cmp_in _ _ | exact pm_b8_in _ | (unfold pm_inI; split <;> omega)) (by first | (unfold pm_inI; omega) | exact pm_and_in _ _ | exact pm_shr_in _ _ | exact pm_or_in _ _ | exact pm_xor_in _ _ | exact pm_shl_in _ _ | exact pm_cmp_in _ _ | exact pm_b8_in _ | (unfold pm_inI; split <;> omega)) (fun h2 => ?_) (fun h2 => ?_)
      · replace h2 : (tC T : Int) ≤ (o : Int) := h2
        refine g_iconst lk_93_37 ?_
        refine g_ireturn lk_93_38 (fun h => absurd h (by decide)) ?_
        exfalso; omega
      · replace h2 : ¬ ((tC T : Int) ≤ (o : Int)) := h2
        refine g_iload_n lk_93_27 rfl ?_
        refine g_if (t := 37) lk_93_28 rfl (by first | (unfold pm_inI; omega) | exact pm_and_in _ _ | exact pm_shr_in _ _ | exact pm_or_in _ _ | exact pm_xor_in _ _ | exact pm_shl_in _ _ | exact pm_cmp_in _ _ | exact pm_b8_in _ | (unfold pm_inI; split <;> omega)) (fun h3 => ?_) (fun h3 => ?_)
        · replace h3 : (p : Int) < 0 := h3
          refine g_iconst lk_93_37 ?_
          refine g_ireturn lk_93_38 (fun h => absurd h (by decide)) ?_
          exfalso; omega
        · replace h3 : ¬ ((p : Int) < 0) := h3
          refine g_iload_n lk_93_31 rfl ?_
          refine g_iload lk_93_32 rfl ?_
          refine g_icmp (t := 39) lk_93_34 rfl (by first | (unfold pm_inI; omega) | exact pm_and_in _ _ | exact pm_shr_in _ _ | exact pm_or_in _ _ | exact pm_xor_in _ _ | exact pm_shl_in _ _ | exact pm_cmp_in _ _ | exact pm_b8_in _ | (unfold pm_inI; split <;> omega)) (by first | (unfold pm_inI; omega) | exact pm_and_in _ _ | exact pm_shr_in _ _ | exact pm_or_in _ _ | exact pm_xor_in _ _ | exact pm_shl_in _ _ | exact pm_cmp_in _ _ | exact pm_b8_in _ | (unfold pm_inI; split <;> omega)) (fun h4 => ?_) (fun h4 => ?_)
          · replace h4 : (p : Int) < (tC T : Int) := h4
            refine g_iload_n lk_93_39 rfl ?_
            refine g_if (t := 50) lk_93_40 rfl (by first | (unfold pm_inI; omega) | exact pm_and_in _ _ | exact pm_shr_in _ _ | exact pm_or_in _ _ | exact pm_xor_in _ _ | exact pm_shl_in _ _ | exact pm_cmp_in _ _ | exact pm_b8_in _ | (unfold pm_inI; split <;> omega)) (fun h => absurd h (show ¬ ((1 : Int) = (0 : Int)) by omega)) (fun _ => ?_)
            refine g_aload_n lk_93_43 rfl ?_
            refine g_getfield lk_93_44 rfl (lay.tb ht).1 (v := (tR T : Int)) hM.1 ?_
            refine g_goto (t := 54) lk_93_47 rfl ?_
            refine g_istore (ls' := [(2, ((t : Nat) : Int)), (0, 1), (0, (o : Int)), (0, (p : Int)), (0, (tC T : Int)), (0, (tR T : Int)), (9, 0), (9, 0), (9, 0)]) lk_93_54 rfl rfl ?_
            refine g_iconst lk_93_56 ?_
            refine g_istore (ls' := [(2, ((t : Nat) : Int)), (0, 1), (0, (o : Int)), (0, (p : Int)), (0, (tC T : Int)), (0, (tR T : Int)), (0, 0), (9, 0), (9, 0)]) lk_93_57 rfl rfl ?_
            exact loop (tR T) 0 _ _ (by omega) hans
          · replace h4 : ¬ ((p : Int) < (tC T : Int)) := h4
            refine g_iconst lk_93_37 ?_
            refine g_ireturn lk_93_38 (fun h => absurd h (by decide)) ?_
            exfalso; omega
  · skip
    refine g_iload_n lk_93_0 rfl ?_
    refine g_if (t := 11) lk_93_1 rfl (by first | (unfold pm_inI; omega) | exact pm_and_in _ _ | exact pm_shr_in _ _ | exact pm_or_in _ _ | exact pm_xor_in _ _ | exact pm_shl_in _ _ | exact pm_cmp_in _ _ | exact pm_b8_in _ | (unfold pm_inI; split <;> omega)) (fun h => absurd h (show ¬ ((1 : Int) = (0 : Int)) by omega)) (fun _ => ?_)
    refine g_aload_n lk_93_4 rfl ?_
    refine g_getfield lk_93_5 rfl (lay.tb ht).1 (v := (tC T : Int)) hM.2.1 ?_
    refine g_goto (t := 15) lk_93_8 rfl ?_
    refine g_istore (ls' := [(2, ((t : Nat) : Int)), (0, 1), (0, o), (0, p), (0, (tC T : Int)), (9, 0), (9, 0), (9, 0), (9, 0)]) lk_93_15 rfl rfl ?_
    refine g_iload_n lk_93_17 rfl ?_
    refine g_if (t := 37) lk_93_18 rfl (by first | (unfold pm_inI; omega) | exact pm_and_in _ _ | exact pm_shr_in _ _ | exact pm_or_in _ _ | exact pm_xor_in _ _ | exact pm_shl_in _ _ | exact pm_cmp_in _ _ | exact pm_b8_in _ | (unfold pm_inI; split <;> omega)) (fun h1 => ?_) (fun h1 => ?_)
    · replace h1 : o < 0 := h1
      refine g_iconst lk_93_37 ?_
      refine g_ireturn lk_93_38 (fun h => absurd h (by decide)) ?_
      rw [hQ]
      exact ⟨congrArg (fun z => some ((0 : Nat), z)) (if_neg hin).symm, rfl⟩
    · replace h1 : ¬ (o < 0) := h1
      refine g_iload_n lk_93_21 rfl ?_
      refine g_iload lk_93_22 rfl ?_
      refine g_icmp (t := 37) lk_93_24 rfl (by first | (unfold pm_inI; omega) | exact pm_and_in _ _ | exact pm_shr_in _ _ | exact pm_or_in _ _ | exact pm_xor_in _ _ | exact pm_shl_in _ _ | exact pm_cmp_in _ _ | exact pm_b8_in _ | (unfold pm_inI; split <;> omega)) (by first | (unfold pm_inI; omega) | exact pm_and_in _ _ | exact pm_shr_in _ _ | exact pm_or_in _ _ | exact pm_xor_in _ _ | exact pm_shl_in _ _ | exact pm_cmp_in _ _ | exact pm_b8_in _ | (unfold pm_inI; split <;> omega)) (fun h2 => ?_) (fun h2 => ?_)
      · replace h2 : (tC T : Int) ≤ o := h2
        refine g_iconst lk_93_37 ?_
        refine g_ireturn lk_93_38 (fun h => absurd h (by decide)) ?_
        rw [hQ]
        exact ⟨congrArg (fun z => some ((0 : Nat), z)) (if_neg hin).symm, rfl⟩
      · replace h2 : ¬ ((tC T : Int) ≤ o) := h2
        refine g_iload_n lk_93_27 rfl ?_
        refine g_if (t := 37) lk_93_28 rfl (by first | (unfold pm_inI; omega) | exact pm_and_in _ _ | exact pm_shr_in _ _ | exact pm_or_in _ _ | exact pm_xor_in _ _ | exact pm_shl_in _ _ | exact pm_cmp_in _ _ | exact pm_b8_in _ | (unfold pm_inI; split <;> omega)) (fun h3 => ?_) (fun h3 => ?_)
        · replace h3 : p < 0 := h3
          refine g_iconst lk_93_37 ?_
          refine g_ireturn lk_93_38 (fun h => absurd h (by decide)) ?_
          rw [hQ]
          exact ⟨congrArg (fun z => some ((0 : Nat), z)) (if_neg hin).symm, rfl⟩
        · replace h3 : ¬ (p < 0) := h3
          refine g_iload_n lk_93_31 rfl ?_
          refine g_iload lk_93_32 rfl ?_
          refine g_icmp (t := 39) lk_93_34 rfl (by first | (unfold pm_inI; omega) | exact pm_and_in _ _ | exact pm_shr_in _ _ | exact pm_or_in _ _ | exact pm_xor_in _ _ | exact pm_shl_in _ _ | exact pm_cmp_in _ _ | exact pm_b8_in _ | (unfold pm_inI; split <;> omega)) (by first | (unfold pm_inI; omega) | exact pm_and_in _ _ | exact pm_shr_in _ _ | exact pm_or_in _ _ | exact pm_xor_in _ _ | exact pm_shl_in _ _ | exact pm_cmp_in _ _ | exact pm_b8_in _ | (unfold pm_inI; split <;> omega)) (fun h4 => ?_) (fun h4 => ?_)
          · replace h4 : p < (tC T : Int) := h4
            refine g_iload_n lk_93_39 rfl ?_
            refine g_if (t := 50) lk_93_40 rfl (by first | (unfold pm_inI; omega) | exact pm_and_in _ _ | exact pm_shr_in _ _ | exact pm_or_in _ _ | exact pm_xor_in _ _ | exact pm_shl_in _ _ | exact pm_cmp_in _ _ | exact pm_b8_in _ | (unfold pm_inI; split <;> omega)) (fun h => absurd h (show ¬ ((1 : Int) = (0 : Int)) by omega)) (fun _ => ?_)
            refine g_aload_n lk_93_43 rfl ?_
            refine g_getfield lk_93_44 rfl (lay.tb ht).1 (v := (tR T : Int)) hM.1 ?_
            refine g_goto (t := 54) lk_93_47 rfl ?_
            refine g_istore (ls' := [(2, ((t : Nat) : Int)), (0, 1), (0, o), (0, p), (0, (tC T : Int)), (0, (tR T : Int)), (9, 0), (9, 0), (9, 0)]) lk_93_54 rfl rfl ?_
            refine g_iconst lk_93_56 ?_
            refine g_istore (ls' := [(2, ((t : Nat) : Int)), (0, 1), (0, o), (0, p), (0, (tC T : Int)), (0, (tR T : Int)), (0, 0), (9, 0), (9, 0)]) lk_93_57 rfl rfl ?_
            exfalso; omega
          · replace h4 : ¬ (p < (tC T : Int)) := h4
            refine g_iconst lk_93_37 ?_
            refine g_ireturn lk_93_38 (fun h => absurd h (by decide)) ?_
            rw [hQ]
            exact ⟨congrArg (fun z => some ((0 : Nat), z)) (if_neg hin).symm, rfl⟩
set_option maxHeartbeats 4000000 in
theorem c_Mo_conflict1 {d mc ms : Nat} {M : pm_M} (lay0 : Lay M) {T : Tab} (hT : TabOK T) (hM0 : MoAt M T) {o p : Int} (ho : pm_inI o) (hp : pm_inI p) :
    pm_E (d + 1) 217 [(2, ((116 : Nat) : Int)), (0, 1), (0, o), (0, p)] M mc ms (fun ρ M' => ρ = some (0, sConf T true o p) ∧ Lay M' ∧ M' = Mu [(116, pm_upd (pm_ct M 116) 0 0)] M) := by
  obtain ⟨Q, hQ⟩ : ∃ Q : pm_Q, Q = (fun ρ M' => ρ = some (0, sConf T true o p) ∧ Lay M' ∧ M' = Mu [(116, pm_upd (pm_ct M 116) 0 0)] M) := ⟨_, rfl⟩
  rw [← hQ]
  obtain ⟨N, hN⟩ : ∃ N, N = Mu [(116, pm_upd (pm_ct M 116) 0 0)] M := ⟨_, rfl⟩
  have hM : MoAt N T := by rw [hN]; exact hM0
  have lay : Lay N := by rw [hN]; exact lay0.muF (l := []) (a := 116) (k := 0) (z := 0) rfl rfl
  have hR := hT.1
  have hC := hT.2.1
  have ho' := ho
  have hp' := hp
  unfold pm_inI at ho' hp'
  show Wp (d + 1) 217 0 [(2, ((116 : Nat) : Int)), (0, 1), (0, o), (0, p), (9, 0), (9, 0), (9, 0)] [] M mc ms Q
  suffices hs : Wp (d + 1) 217 5 [(2, ((116 : Nat) : Int)), (0, 1), (0, o), (0, p), (9, 0), (9, 0), (9, 0)] [] N mc ms Q by
    refine g_aload_n lk_217_0 rfl ?_
    refine g_iconst lk_217_1 ?_
    have lay1 : Lay (Mu [(116, pm_upd (pm_ct M 116) 0 0)] M) := lay0.muF (l := []) (a := 116) (k := 0) (z := 0) rfl rfl
    refine m_putfield (u := []) (u' := [(116, pm_upd (pm_ct M 116) 0 0)]) (M := M) lk_217_2 rfl (lay0.on (by decide) rfl) (fun h => absurd h (by decide)) rfl ?_
    rw [← hN]
    exact hs
  by_cases hin : (0 ≤ o ∧ o < (tC T : Int)) ∧ (0 ≤ p ∧ p < (tC T : Int))
  · obtain ⟨o, rfl⟩ := Int.eq_ofNat_of_zero_le hin.1.1
    obtain ⟨p, rfl⟩ := Int.eq_ofNat_of_zero_le hin.2.1
    have hans : sConf T true (o : Int) (p : Int) = ffr (cfP T true o p) (tR T) 0 := if_pos hin
    have loop : ∀ (n i : Nat) (v6 : pm_V), i + n = tR T → sConf T true (o : Int) (p : Int) = ffr (cfP T true o p) n i → Wp (d + 1) 217 51 [(2, ((116 : Nat) : Int)), (0, 1), (0, (o : Int)), (0, (p : Int)), (0, (tC T : Int)), (0, (i : Int)), v6] [] N mc ms Q := by
      intro n
      induction n with
      | zero =>
        intro i v6 hi he
        refine g_iload lk_217_51 rfl ?_
        refine g_iload_n lk_217_53 rfl ?_
        refine g_if (t := 64) lk_217_54 rfl (by first | (unfold pm_inI; omega) | exact pm_and_in _ _ | exact pm_shr_in _ _ | exact pm_or_in _ _ | exact pm_xor_in _ _ | exact pm_shl_in _ _ | exact pm_cmp_in _ _ | exact pm_b8_in _ | (unfold pm_inI; split <;> omega)) (fun h => absurd h (show ¬ ((1 : Int) = (0 : Int)) by omega)) (fun _ => ?_)
        refine g_aload_n lk_217_57 rfl ?_
        refine m_getfield (u := []) (M := N) lk_217_58 rfl (lay.on (by decide) rfl) (v := (tR T : Int)) hM.1 ?_
        refine g_goto (t := 68) lk_217_61 rfl ?_
        refine g_icmp (t := 130) lk_217_68 rfl (by first | (unfold pm_inI; omega) | exact pm_and_in _ _ | exact pm_shr_in _ _ | exact pm_or_in _ _ | exact pm_xor_in _ _ | exact pm_shl_in _ _ | exact pm_cmp_in _ _ | exact pm_b8_in _ | (unfold pm_inI; split <;> omega)) (by first | (unfold pm_inI; omega) | exact pm_and_in _ _ | exact pm_shr_in _ _ | exact pm_or_in _ _ | exact pm_xor_in _ _ | exact pm_shl_in _ _ | exact pm_cmp_in _ _ | exact pm_b8_in _ | (unfold pm_inI; split <;> omega)) (fun h1 => ?_) (fun h1 => ?_)
        · replace h1 : (tR T : Int) ≤ (i : Int) := h1
          refine g_iconst lk_217_130 ?_
          refine g_ireturn lk_217_131 (fun h => absurd h (by decide)) ?_
          rw [hQ, he]
          exact ⟨rfl, lay, hN⟩
        · replace h1 : ¬ ((tR T : Int) ≤ (i : Int)) := h1
          refine g_iload_n lk_217_71 rfl ?_
          refine g_if (t := 96) lk_217_72 rfl (by first | (unfold pm_inI; omega) | exact pm_and_in _ _ | exact pm_shr_in _ _ | exact pm_or_in _ _ | exact pm_xor_in _ _ | exact pm_shl_in _ _ | exact pm_cmp_in _ _ | exact pm_b8_in _ | (unfold pm_inI; split <;> omega)) (fun h => absurd h (show ¬ ((1 : Int) = (0 : Int)) by omega)) (fun _ => ?_)
          refine g_aload_n lk_217_75 rfl ?_
          refine g_aload_n lk_217_76 rfl ?_
          refine g_iload lk_217_77 rfl ?_
          refine g_iload_n lk_217_79 rfl ?_
          omega
      | succ n ih =>
        intro i v6 hi he
        have e := ffr_s (cfP T true o p) n i
        have hx1 := hT.2.2.1 (6 * i + o)
        have hx2 := hT.2.2.1 (6 * i + p)
        have hP : cfP T true o p i = clash (tX T (6 * i + o)) (tX T (6 * i + p)) := rfl
        refine g_iload lk_217_51 rfl ?_
        refine g_iload_n lk_217_53 rfl ?_
        refine g_if (t := 64) lk_217_54 rfl (by first | (unfold pm_inI; omega) | exact pm_and_in _ _ | exact pm_shr_in _ _ | exact pm_or_in _ _ | exact pm_xor_in _ _ | exact pm_shl_in _ _ | exact pm_cmp_in _ _ | exact pm_b8_in _ | (unfold pm_inI; split <;> omega)) (fun h => absurd h (show ¬ ((1 : Int) = (0 : Int)) by omega)) (fun _ => ?_)
        refine g_aload_n lk_217_57 rfl ?_
        refine m_getfield (u := []) (M := N) lk_217_58 rfl (lay.on (by decide) rfl) (v := (tR T : Int)) hM.1 ?_
        refine g_goto (t := 68) lk_217_61 rfl ?_
        refine g_icmp (t := 130) lk_217_68 rfl (by first | (unfold pm_inI; omega) | exact pm_and_in _ _ | exact pm_shr_in _ _ | exact pm_or_in _ _ | exact pm_xor_in _ _ | exact pm_shl_in _ _ | exact pm_cmp_in _ _ | exact pm_b8_in _ | (unfold pm_inI; split <;> omega)) (by first | (unfold pm_inI; omega) | exact pm_and_in _ _ | exact pm_shr_in _ _ | exact pm_or_in _ _ | exact pm_xor_in _ _ | exact pm_shl_in _ _ | exact pm_cmp_in _ _ | exact pm_b8_in _ | (unfold pm_inI; split <;> omega)) (fun h1 => ?_) (fun h1 => ?_)
        · replace h1 : (tR T : Int) ≤ (i : Int) := h1
          refine g_iconst lk_217_130 ?_
          refine g_ireturn lk_217_131 (fun h => absurd h (by decide)) ?_
          omega
        · replace h1 : ¬ ((tR T : Int) ≤ (i : Int)) := h1
          refine g_iload_n lk_217_71 rfl ?_
          refine g_if (t := 96) lk_217_72 rfl (by first | (unfold pm_inI; omega) | exact pm_and_in _ _ | exact pm_shr_in _ _ | exact pm_or_in _ _ | exact pm_xor_in _ _ | exact pm_shl_in _ _ | exact pm_cmp_in _ _ | exact pm_b8_in _ | (unfold pm_inI; split <;> omega)) (fun h => absurd h (show ¬ ((1 : Int) = (0 : Int)) by omega)) (fun _ => ?_)
          refine g_aload_n lk_217_75 rfl ?_
          refine g_aload_n lk_217_76 rfl ?_
          refine g_iload lk_217_77 rfl ?_
          refine g_iload_n lk_217_79 rfl ?_
          refine g_virtual (p := 116) (Qc := _) lk_217_80 rfl (Nat.le_of_ble_eq_true rfl) rfl rfl (lay.on (by decide) rfl) (Nat.le_of_ble_eq_true rfl) (Nat.le_of_ble_eq_true rfl) (Nat.zero_le _) (Nat.zero_le _) (c_Mo_cellAt lay hM (by omega) (by omega)) ?_
          rintro _ N2 ⟨rfl, hN2⟩
          rw [hN2]
          show Wp _ 217 83 [(2, ((116 : Nat) : Int)), (0, 1), (0, (o : Int)), (0, (p : Int)), (0, (tC T : Int)), (0, (i : Int)), v6] [(0, (tX T (6 * i + o) : Int)), (2, ((116 : Nat) : Int))] N _ _ _
          refine g_aload_n lk_217_83 rfl ?_
          refine g_iload lk_217_84 rfl ?_
          refine g_iload_n lk_217_86 rfl ?_
          refine g_virtual (p := 116) (Qc := _) lk_217_87 rfl (Nat.le_of_ble_eq_true rfl) rfl rfl (lay.on (by decide) rfl) (Nat.le_of_ble_eq_true rfl) (Nat.le_of_ble_eq_true rfl) (Nat.zero_le _) (Nat.zero_le _) (c_Mo_cellAt lay hM (by omega) (by omega)) ?_
          rintro _ N3 ⟨rfl, hN3⟩
          rw [hN3]
          show Wp _ 217 90 [(2, ((116 : Nat) : Int)), (0, 1), (0, (o : Int)), (0, (p : Int)), (0, (tC T : Int)), (0, (i : Int)), v6] [(0, (tX T (6 * i + p) : Int)), (0, (tX T (6 * i + o) : Int)), (2, ((116 : Nat) : Int))] N _ _ _
          refine g_virtual (p := 116) (Qc := _) lk_217_90 rfl (Nat.le_of_ble_eq_true rfl) rfl rfl (lay.on (by decide) rfl) (Nat.le_of_ble_eq_true rfl) (Nat.le_of_ble_eq_true rfl) (Nat.zero_le _) (Nat.zero_le _) (c_Mo_areUnlike hx1 hx2) ?_
          rintro _ N4 ⟨rfl, hN4⟩
          rw [hN4]
          show Wp _ 217 93 [(2, ((116 : Nat) : Int)), (0, 1), (0, (o : Int)), (0, (p : Int)), (0, (tC T : Int)), (0, (i : Int)), v6] [(0, (if clash (tX T (6 * i + o)) (tX T (6 * i + p)) then (1 : Int) else 0))] N _ _ _
          refine g_goto (t := 114) lk_217_93 rfl ?_
          refine g_istore (ls' := [(2, ((116 : Nat) : Int)), (0, 1), (0, (o : Int)), (0, (p : Int)), (0, (tC T : Int)), (0, (i : Int)), (0, (if clash (tX T (6 * i + o)) (tX T (6 * i + p)) then (1 : Int) else 0))]) lk_217_114 rfl rfl ?_
          refine g_iload lk_217_116 rfl ?_
          refine g_if (t := 124) lk_217_118 rfl (by first | (unfold pm_inI; omega) | exact pm_and_in _ _ | exact pm_shr_in _ _ | exact pm_or_in _ _ | exact pm_xor_in _ _ | exact pm_shl_in _ _ | exact pm_cmp_in _ _ | exact pm_b8_in _ | (unfold pm_inI; split <;> omega)) (fun h5 => ?_) (fun h5 => ?_)
          · replace h5 : (if clash (tX T (6 * i + o)) (tX T (6 * i + p)) then (1 : Int) else 0) = 0 := h5
            refine g_iinc (ls' := [(2, ((116 : Nat) : Int)), (0, 1), (0, (o : Int)), (0, (p : Int)), (0, (tC T : Int)), (0, ((i : Int) + 1)), (0, (if clash (tX T (6 * i + o)) (tX T (6 * i + p)) then (1 : Int) else 0))]) lk_217_124 rfl rfl rfl ?_
            refine g_goto (t := 51) lk_217_127 rfl ?_
            rw [hP] at e
            rw [if_neg (fun q => by rw [if_pos q] at h5; omega)] at e
            exact ih (i + 1) _ (by omega) (he.trans e)
          · replace h5 : ¬ ((if clash (tX T (6 * i + o)) (tX T (6 * i + p)) then (1 : Int) else 0) = 0) := h5
            refine g_iload lk_217_121 rfl ?_
            refine g_ireturn lk_217_123 (fun h => absurd h (by decide)) ?_
            rw [hP] at e
            rw [if_pos (Classical.byContradiction (fun q => h5 (by rw [if_neg q])))] at e
            rw [hQ, he.trans e]
            exact ⟨rfl, lay, hN⟩
    refine g_iload_n lk_217_5 rfl ?_
    refine g_if (t := 16) lk_217_6 rfl (by first | (unfold pm_inI; omega) | exact pm_and_in _ _ | exact pm_shr_in _ _ | exact pm_or_in _ _ | exact pm_xor_in _ _ | exact pm_shl_in _ _ | exact pm_cmp_in _ _ | exact pm_b8_in _ | (unfold pm_inI; split <;> omega)) (fun h => absurd h (show ¬ ((1 : Int) = (0 : Int)) by omega)) (fun _ => ?_)
    refine g_aload_n lk_217_9 rfl ?_
    refine m_getfield (u := []) (M := N) lk_217_10 rfl (lay.on (by decide) rfl) (v := (tC T : Int)) hM.2.1 ?_
    refine g_goto (t := 20) lk_217_13 rfl ?_
    refine g_istore (ls' := [(2, ((116 : Nat) : Int)), (0, 1), (0, (o : Int)), (0, (p : Int)), (0, (tC T : Int)), (9, 0), (9, 0)]) lk_217_20 rfl rfl ?_
    refine g_iload_n lk_217_22 rfl ?_
    refine g_iconst lk_217_23 ?_
    refine g_iload lk_217_24 rfl ?_
    refine g_iconst lk_217_26 ?_
    refine g_isub lk_217_27 ?_
    refine g_static (Qc := _) lk_217_28 (by decide) rfl (Nat.le_of_ble_eq_true rfl) rfl rfl (Nat.le_of_ble_eq_true rfl) (Nat.le_of_ble_eq_true rfl) (Nat.zero_le _) (Nat.zero_le _) (c_Mo_in (by unfold pm_inI; omega) (by unfold pm_inI; omega) (by unfold pm_inI; omega)) ?_
    rintro _ N1 ⟨rfl, hN1⟩
    rw [hN1]
    show Wp _ 217 31 [(2, ((116 : Nat) : Int)), (0, 1), (0, (o : Int)), (0, (p : Int)), (0, (tC T : Int)), (9, 0), (9, 0)] [(0, (if 0 ≤ (o : Int) ∧ (o : Int) ≤ ((tC T : Int) - 1) then (1 : Int) else 0))] N _ _ _
    refine g_if (t := 46) lk_217_31 rfl (by first | (unfold pm_inI; omega) | exact pm_and_in _ _ | exact pm_shr_in _ _ | exact pm_or_in _ _ | exact pm_xor_in _ _ | exact pm_shl_in _ _ | exact pm_cmp_in _ _ | exact pm_b8_in _ | (unfold pm_inI; split <;> omega)) (fun h2 => ?_) (fun h2 => ?_)
    · replace h2 : (if 0 ≤ (o : Int) ∧ (o : Int) ≤ ((tC T : Int) - 1) then (1 : Int) else 0) = 0 := h2
      refine g_iconst lk_217_46 ?_
      refine g_ireturn lk_217_47 (fun h => absurd h (by decide)) ?_
      exfalso
      split at h2 <;> omega
    · replace h2 : ¬ ((if 0 ≤ (o : Int) ∧ (o : Int) ≤ ((tC T : Int) - 1) then (1 : Int) else 0) = 0) := h2
      refine g_iload_n lk_217_34 rfl ?_
      refine g_iconst lk_217_35 ?_
      refine g_iload lk_217_36 rfl ?_
      refine g_iconst lk_217_38 ?_
      refine g_isub lk_217_39 ?_
      refine g_static (Qc := _) lk_217_40 (by decide) rfl (Nat.le_of_ble_eq_true rfl) rfl rfl (Nat.le_of_ble_eq_true rfl) (Nat.le_of_ble_eq_true rfl) (Nat.zero_le _) (Nat.zero_le _) (c_Mo_in (by unfold pm_inI; omega) (by unfold pm_inI; omega) (by unfold pm_inI; omega)) ?_
      rintro _ N3 ⟨rfl, hN3⟩
      rw [hN3]
      show Wp _ 217 43 [(2, ((116 : Nat) : Int)), (0, 1), (0, (o : Int)), (0, (p : Int)), (0, (tC T : Int)), (9, 0), (9, 0)] [(0, (if 0 ≤ (p : Int) ∧ (p : Int) ≤ ((tC T : Int) - 1) then (1 : Int) else 0))] N _ _ _
      refine g_if (t := 48) lk_217_43 rfl (by first | (unfold pm_inI; omega) | exact pm_and_in _ _ | exact pm_shr_in _ _ | exact pm_or_in _ _ | exact pm_xor_in _ _ | exact pm_shl_in _ _ | exact pm_cmp_in _ _ | exact pm_b8_in _ | (unfold pm_inI; split <;> omega)) (fun h4 => ?_) (fun h4 => ?_)
      · replace h4 : ¬ (if 0 ≤ (p : Int) ∧ (p : Int) ≤ ((tC T : Int) - 1) then (1 : Int) else 0) = 0 := h4
        refine g_iconst lk_217_48 ?_
        refine g_istore (ls' := [(2, ((116 : Nat) : Int)), (0, 1), (0, (o : Int)), (0, (p : Int)), (0, (tC T : Int)), (0, 0), (9, 0)]) lk_217_49 rfl rfl ?_
        exact loop (tR T) 0 _ (by omega) hans
      · replace h4 : ¬ (¬ (if 0 ≤ (p : Int) ∧ (p : Int) ≤ ((tC T : Int) - 1) then (1 : Int) else 0) = 0) := h4
        refine g_iconst lk_217_46 ?_
        refine g_ireturn lk_217_47 (fun h => absurd h (by decide)) ?_
        exfalso
        split at h4 <;> omega
  · skip
    refine g_iload_n lk_217_5 rfl ?_
    refine g_if (t := 16) lk_217_6 rfl (by first | (unfold pm_inI; omega) | exact pm_and_in _ _ | exact pm_shr_in _ _ | exact pm_or_in _ _ | exact pm_xor_in _ _ | exact pm_shl_in _ _ | exact pm_cmp_in _ _ | exact pm_b8_in _ | (unfold pm_inI; split <;> omega)) (fun h => absurd h (show ¬ ((1 : Int) = (0 : Int)) by omega)) (fun _ => ?_)
    refine g_aload_n lk_217_9 rfl ?_
    refine m_getfield (u := []) (M := N) lk_217_10 rfl (lay.on (by decide) rfl) (v := (tC T : Int)) hM.2.1 ?_
    refine g_goto (t := 20) lk_217_13 rfl ?_
    refine g_istore (ls' := [(2, ((116 : Nat) : Int)), (0, 1), (0, o), (0, p), (0, (tC T : Int)), (9, 0), (9, 0)]) lk_217_20 rfl rfl ?_
    refine g_iload_n lk_217_22 rfl ?_
    refine g_iconst lk_217_23 ?_
    refine g_iload lk_217_24 rfl ?_
    refine g_iconst lk_217_26 ?_
    refine g_isub lk_217_27 ?_
    refine g_static (Qc := _) lk_217_28 (by decide) rfl (Nat.le_of_ble_eq_true rfl) rfl rfl (Nat.le_of_ble_eq_true rfl) (Nat.le_of_ble_eq_true rfl) (Nat.zero_le _) (Nat.zero_le _) (c_Mo_in (by unfold pm_inI; omega) (by unfold pm_inI; omega) (by unfold pm_inI; omega)) ?_
    rintro _ N1 ⟨rfl, hN1⟩
    rw [hN1]
    show Wp _ 217 31 [(2, ((116 : Nat) : Int)), (0, 1), (0, o), (0, p), (0, (tC T : Int)), (9, 0), (9, 0)] [(0, (if 0 ≤ o ∧ o ≤ ((tC T : Int) - 1) then (1 : Int) else 0))] N _ _ _
    refine g_if (t := 46) lk_217_31 rfl (by first | (unfold pm_inI; omega) | exact pm_and_in _ _ | exact pm_shr_in _ _ | exact pm_or_in _ _ | exact pm_xor_in _ _ | exact pm_shl_in _ _ | exact pm_cmp_in _ _ | exact pm_b8_in _ | (unfold pm_inI; split <;> omega)) (fun h2 => ?_) (fun h2 => ?_)
    · replace h2 : (if 0 ≤ o ∧ o ≤ ((tC T : Int) - 1) then (1 : Int) else 0) = 0 := h2
      refine g_iconst lk_217_46 ?_
      refine g_ireturn lk_217_47 (fun h => absurd h (by decide)) ?_
      rw [hQ]
      exact ⟨congrArg (fun z => some ((0 : Nat), z)) (if_neg hin).symm, lay, hN⟩
    · replace h2 : ¬ ((if 0 ≤ o ∧ o ≤ ((tC T : Int) - 1) then (1 : Int) else 0) = 0) := h2
      refine g_iload_n lk_217_34 rfl ?_
      refine g_iconst lk_217_35 ?_
      refine g_iload lk_217_36 rfl ?_
      refine g_iconst lk_217_38 ?_
      refine g_isub lk_217_39 ?_
      refine g_static (Qc := _) lk_217_40 (by decide) rfl (Nat.le_of_ble_eq_true rfl) rfl rfl (Nat.le_of_ble_eq_true rfl) (Nat.le_of_ble_eq_true rfl) (Nat.zero_le _) (Nat.zero_le _) (c_Mo_in (by unfold pm_inI; omega) (by unfold pm_inI; omega) (by unfold pm_inI; omega)) ?_
      rintro _ N3 ⟨rfl, hN3⟩
      rw [hN3]
      show Wp _ 217 43 [(2, ((116 : Nat) : Int)), (0, 1), (0, o), (0, p), (0, (tC T : Int)), (9, 0), (9, 0)] [(0, (if 0 ≤ p ∧ p ≤ ((tC T : Int) - 1) then (1 : Int) else 0))] N _ _ _
      refine g_if (t := 48) lk_217_43 rfl (by first | (unfold pm_inI; omega) | exact pm_and_in _ _ | exact pm_shr_in _ _ | exact pm_or_in _ _ | exact pm_xor_in _ _ | exact pm_shl_in _ _ | exact pm_cmp_in _ _ | exact pm_b8_in _ | (unfold pm_inI; split <;> omega)) (fun h4 => ?_) (fun h4 => ?_)
      · replace h4 : ¬ (if 0 ≤ p ∧ p ≤ ((tC T : Int) - 1) then (1 : Int) else 0) = 0 := h4
        refine g_iconst lk_217_48 ?_
        refine g_istore (ls' := [(2, ((116 : Nat) : Int)), (0, 1), (0, o), (0, p), (0, (tC T : Int)), (0, 0), (9, 0)]) lk_217_49 rfl rfl ?_
        exfalso
        split at h4 <;> split at h2 <;> omega
      · replace h4 : ¬ (¬ (if 0 ≤ p ∧ p ≤ ((tC T : Int) - 1) then (1 : Int) else 0) = 0) := h4
        refine g_iconst lk_217_46 ?_
        refine g_ireturn lk_217_47 (fun h => absurd h (by decide)) ?_
        rw [hQ]
        exact ⟨congrArg (fun z => some ((0 : Nat), z)) (if_neg hin).symm, lay, hN⟩
set_option maxHeartbeats 4000000 in
theorem c_Table_firstClash0 {d mc ms : Nat} {M : pm_M} (lay : Lay M) {t : Nat} (ht : t = 4 ∨ t = 24) {T : Tab} (hT : TabOK T) (hM : TbAt M t T) {o p : Int} (ho : pm_inI o) (hp : pm_inI p) :
    pm_E (d + 1) 93 [(2, ((t : Nat) : Int)), (0, 0), (0, o), (0, p)] M mc ms (fun ρ M' => ρ = some (0, sConf T false o p) ∧ M' = M) := by
  obtain ⟨Q, hQ⟩ : ∃ Q : pm_Q, Q = (fun ρ M' => ρ = some (0, sConf T false o p) ∧ M' = M) := ⟨_, rfl⟩
  rw [← hQ]
  have hR := hT.1
  have hC := hT.2.1
  have ho' := ho
  have hp' := hp
  unfold pm_inI at ho' hp'
  show Wp (d + 1) 93 0 [(2, ((t : Nat) : Int)), (0, 0), (0, o), (0, p), (9, 0), (9, 0), (9, 0), (9, 0), (9, 0)] [] M mc ms Q
  by_cases hin : (0 ≤ o ∧ o < (tR T : Int)) ∧ (0 ≤ p ∧ p < (tR T : Int))
  · obtain ⟨o, rfl⟩ := Int.eq_ofNat_of_zero_le hin.1.1
    obtain ⟨p, rfl⟩ := Int.eq_ofNat_of_zero_le hin.2.1
    have hans : sConf T false (o : Int) (p : Int) = ffr (cfP T false o p) (tC T) 0 := if_pos hin
    have loop : ∀ (n i : Nat) (v7 v8 : pm_V), i + n = tC T → sConf T false (o : Int) (p : Int) = ffr (cfP T false o p) n i → Wp (d + 1) 93 59 [(2, ((t : Nat) : Int)), (0, 0), (0, (o : Int)), (0, (p : Int)), (0, (tR T : Int)), (0, (tC T : Int)), (0, (i : Int)), v7, v8] [] M mc ms Q := by
      intro n
      induction n with
      | zero =>
        intro i v7 v8 hi he
        refine g_iload lk_93_59 rfl ?_
        refine g_iload lk_93_61 rfl ?_
        refine g_icmp (t := 142) lk_93_63 rfl (by first | (unfold pm_inI; omega) | exact pm_and_in _ _ | exact pm_shr_in _ _ | exact pm_or_in _ _ | exact pm_xor_in _ _ | exact pm_shl_in _ _ | exact pm_cmp_in _ _ | exact pm_b8_in _ | (unfold pm_inI; split <;> omega)) (by first | (unfold pm_inI; omega) | exact pm_and_in _ _ | exact pm_shr_in _ _ | exact pm_or_in _ _ | exact pm_xor_in _ _ | exact pm_shl_in _ _ | exact pm_cmp_in _ _ | exact pm_b8_in _ | (unfold pm_inI; split <;> omega)) (fun h1 => ?_) (fun h1 => ?_)
        · replace h1 : (tC T : Int) ≤ (i : Int) := h1
          refine g_iconst lk_93_142 ?_
          refine g_ireturn lk_93_143 (fun h => absurd h (by decide)) ?_
          rw [hQ, he]
          exact ⟨rfl, rfl⟩
        · replace h1 : ¬ ((tC T : Int) ≤ (i : Int)) := h1
          refine g_iload_n lk_93_66 rfl ?_
          refine g_if (t := 80) lk_93_67 rfl (by first | (unfold pm_inI; omega) | exact pm_and_in _ _ | exact pm_shr_in _ _ | exact pm_or_in _ _ | exact pm_xor_in _ _ | exact pm_shl_in _ _ | exact pm_cmp_in _ _ | exact pm_b8_in _ | (unfold pm_inI; split <;> omega)) (fun _ => ?_) (fun h => absurd (show (0 : Int) = (0 : Int) by omega) h)
          refine g_aload_n lk_93_80 rfl ?_
          refine g_iload_n lk_93_81 rfl ?_
          refine g_iload lk_93_82 rfl ?_
          omega
      | succ n ih =>
        intro i v7 v8 hi he
        have e := ffr_s (cfP T false o p) n i
        have hx1 := hT.2.2.1 (6 * o + i)
        have hx2 := hT.2.2.1 (6 * p + i)
        have hP : cfP T false o p i = clash (tX T (6 * o + i)) (tX T (6 * p + i)) := rfl
        refine g_iload lk_93_59 rfl ?_
        refine g_iload lk_93_61 rfl ?_
        refine g_icmp (t := 142) lk_93_63 rfl (by first | (unfold pm_inI; omega) | exact pm_and_in _ _ | exact pm_shr_in _ _ | exact pm_or_in _ _ | exact pm_xor_in _ _ | exact pm_shl_in _ _ | exact pm_cmp_in _ _ | exact pm_b8_in _ | (unfold pm_inI; split <;> omega)) (by first | (unfold pm_inI; omega) | exact pm_and_in _ _ | exact pm_shr_in _ _ | exact pm_or_in _ _ | exact pm_xor_in _ _ | exact pm_shl_in _ _ | exact pm_cmp_in _ _ | exact pm_b8_in _ | (unfold pm_inI; split <;> omega)) (fun h1 => ?_) (fun h1 => ?_)
        · replace h1 : (tC T : Int) ≤ (i : Int) := h1
          refine g_iconst lk_93_142 ?_
          refine g_ireturn lk_93_143 (fun h => absurd h (by decide)) ?_
          omega
        · replace h1 : ¬ ((tC T : Int) ≤ (i : Int)) := h1
          refine g_iload_n lk_93_66 rfl ?_
          refine g_if (t := 80) lk_93_67 rfl (by first | (unfold pm_inI; omega) | exact pm_and_in _ _ | exact pm_shr_in _ _ | exact pm_or_in _ _ | exact pm_xor_in _ _ | exact pm_shl_in _ _ | exact pm_cmp_in _ _ | exact pm_b8_in _ | (unfold pm_inI; split <;> omega)) (fun _ => ?_) (fun h => absurd (show (0 : Int) = (0 : Int) by omega) h)
          refine g_aload_n lk_93_80 rfl ?_
          refine g_iload_n lk_93_81 rfl ?_
          refine g_iload lk_93_82 rfl ?_
          refine g_virtual (p := t) (Qc := _) lk_93_84 rfl (Nat.le_of_ble_eq_true rfl) rfl rfl (lay.tb ht).1 (Nat.le_of_ble_eq_true rfl) (Nat.le_of_ble_eq_true rfl) (Nat.zero_le _) (Nat.zero_le _) (c_Table_at lay ht hM (by omega) (by omega)) ?_
          rintro _ N2 ⟨rfl, hN2⟩
          rw [hN2]
          show Wp _ 93 87 [(2, ((t : Nat) : Int)), (0, 0), (0, (o : Int)), (0, (p : Int)), (0, (tR T : Int)), (0, (tC T : Int)), (0, (i : Int)), v7, v8] [(0, (tX T (6 * o + i) : Int))] M _ _ _
          refine g_istore (ls' := [(2, ((t : Nat) : Int)), (0, 0), (0, (o : Int)), (0, (p : Int)), (0, (tR T : Int)), (0, (tC T : Int)), (0, (i : Int)), (0, (tX T (6 * o + i) : Int)), v8]) lk_93_87 rfl rfl ?_
          refine g_iload_n lk_93_89 rfl ?_
          refine g_if (t := 103) lk_93_90 rfl (by first | (unfold pm_inI; omega) | exact pm_and_in _ _ | exact pm_shr_in _ _ | exact pm_or_in _ _ | exact pm_xor_in _ _ | exact pm_shl_in _ _ | exact pm_cmp_in _ _ | exact pm_b8_in _ | (unfold pm_inI; split <;> omega)) (fun _ => ?_) (fun h => absurd (show (0 : Int) = (0 : Int) by omega) h)
          refine g_aload_n lk_93_103 rfl ?_
          refine g_iload_n lk_93_104 rfl ?_
          refine g_iload lk_93_105 rfl ?_
          refine g_virtual (p := t) (Qc := _) lk_93_107 rfl (Nat.le_of_ble_eq_true rfl) rfl rfl (lay.tb ht).1 (Nat.le_of_ble_eq_true rfl) (Nat.le_of_ble_eq_true rfl) (Nat.zero_le _) (Nat.zero_le _) (c_Table_at lay ht hM (by omega) (by omega)) ?_
          rintro _ N3 ⟨rfl, hN3⟩
          rw [hN3]
          show Wp _ 93 110 [(2, ((t : Nat) : Int)), (0, 0), (0, (o : Int)), (0, (p : Int)), (0, (tR T : Int)), (0, (tC T : Int)), (0, (i : Int)), (0, (tX T (6 * o + i) : Int)), v8] [(0, (tX T (6 * p + i) : Int))] M _ _ _
          refine g_istore (ls' := [(2, ((t : Nat) : Int)), (0, 0), (0, (o : Int)), (0, (p : Int)), (0, (tR T : Int)), (0, (tC T : Int)), (0, (i : Int)), (0, (tX T (6 * o + i) : Int)), (0, (tX T (6 * p + i) : Int))]) lk_93_110 rfl rfl ?_
          refine g_iload lk_93_112 rfl ?_
          refine g_iload lk_93_114 rfl ?_
          refine g_icmp (t := 136) lk_93_116 rfl (by first | (unfold pm_inI; omega) | exact pm_and_in _ _ | exact pm_shr_in _ _ | exact pm_or_in _ _ | exact pm_xor_in _ _ | exact pm_shl_in _ _ | exact pm_cmp_in _ _ | exact pm_b8_in _ | (unfold pm_inI; split <;> omega)) (by first | (unfold pm_inI; omega) | exact pm_and_in _ _ | exact pm_shr_in _ _ | exact pm_or_in _ _ | exact pm_xor_in _ _ | exact pm_shl_in _ _ | exact pm_cmp_in _ _ | exact pm_b8_in _ | (unfold pm_inI; split <;> omega)) (fun h4 => ?_) (fun h4 => ?_)
          · replace h4 : (tX T (6 * o + i) : Int) = (tX T (6 * p + i) : Int) := h4
            refine g_iinc (ls' := [(2, ((t : Nat) : Int)), (0, 0), (0, (o : Int)), (0, (p : Int)), (0, (tR T : Int)), (0, (tC T : Int)), (0, ((i : Int) + 1)), (0, (tX T (6 * o + i) : Int)), (0, (tX T (6 * p + i) : Int))]) lk_93_136 rfl rfl rfl ?_
            refine g_goto (t := 59) lk_93_139 rfl ?_
            rw [hP, clash_no (by omega)] at e
            exact ih (i + 1) _ _ (by omega) (he.trans e)
          · replace h4 : ¬ ((tX T (6 * o + i) : Int) = (tX T (6 * p + i) : Int)) := h4
            refine g_iload lk_93_119 rfl ?_
            refine g_bipush lk_93_121 ?_
            refine g_icmp (t := 136) lk_93_123 rfl (by first | (unfold pm_inI; omega) | exact pm_and_in _ _ | exact pm_shr_in _ _ | exact pm_or_in _ _ | exact pm_xor_in _ _ | exact pm_shl_in _ _ | exact pm_cmp_in _ _ | exact pm_b8_in _ | (unfold pm_inI; split <;> omega)) (by first | (unfold pm_inI; omega) | exact pm_and_in _ _ | exact pm_shr_in _ _ | exact pm_or_in _ _ | exact pm_xor_in _ _ | exact pm_shl_in _ _ | exact pm_cmp_in _ _ | exact pm_b8_in _ | (unfold pm_inI; split <;> omega)) (fun h5 => ?_) (fun h5 => ?_)
            · replace h5 : (tX T (6 * o + i) : Int) = 10 := h5
              refine g_iinc (ls' := [(2, ((t : Nat) : Int)), (0, 0), (0, (o : Int)), (0, (p : Int)), (0, (tR T : Int)), (0, (tC T : Int)), (0, ((i : Int) + 1)), (0, (tX T (6 * o + i) : Int)), (0, (tX T (6 * p + i) : Int))]) lk_93_136 rfl rfl rfl ?_
              refine g_goto (t := 59) lk_93_139 rfl ?_
              rw [hP, clash_no (by omega)] at e
              exact ih (i + 1) _ _ (by omega) (he.trans e)
            · replace h5 : ¬ ((tX T (6 * o + i) : Int) = 10) := h5
              refine g_iload lk_93_126 rfl ?_
              refine g_bipush lk_93_128 ?_
              refine g_icmp (t := 136) lk_93_130 rfl (by first | (unfold pm_inI; omega) | exact pm_and_in _ _ | exact pm_shr_in _ _ | exact pm_or_in _ _ | exact pm_xor_in _ _ | exact pm_shl_in _ _ | exact pm_cmp_in _ _ | exact pm_b8_in _ | (unfold pm_inI; split <;> omega)) (by first | (unfold pm_inI; omega) | exact pm_and_in _ _ | exact pm_shr_in _ _ | exact pm_or_in _ _ | exact pm_xor_in _ _ | exact pm_shl_in _ _ | exact pm_cmp_in _ _ | exact pm_b8_in _ | (unfold pm_inI; split <;> omega)) (fun h6 => ?_) (fun h6 => ?_)
              · replace h6 : (tX T (6 * p + i) : Int) = 10 := h6
                refine g_iinc (ls' := [(2, ((t : Nat) : Int)), (0, 0), (0, (o : Int)), (0, (p : Int)), (0, (tR T : Int)), (0, (tC T : Int)), (0, ((i : Int) + 1)), (0, (tX T (6 * o + i) : Int)), (0, (tX T (6 * p + i) : Int))]) lk_93_136 rfl rfl rfl ?_
                refine g_goto (t := 59) lk_93_139 rfl ?_
                rw [hP, clash_no (by omega)] at e
                exact ih (i + 1) _ _ (by omega) (he.trans e)
              · replace h6 : ¬ ((tX T (6 * p + i) : Int) = 10) := h6
                refine g_iload lk_93_133 rfl ?_
                refine g_ireturn lk_93_135 (fun h => absurd h (by decide)) ?_
                rw [hP, clash_of (by omega)] at e
                rw [hQ, he.trans e]
                exact ⟨rfl, rfl⟩
    refine g_iload_n lk_93_0 rfl ?_
    refine g_if (t := 11) lk_93_1 rfl (by first | (unfold pm_inI; omega) | exact pm_and_in _ _ | exact pm_shr_in _ _ | exact pm_or_in _ _ | exact pm_xor_in _ _ | exact pm_shl_in _ _ | exact pm_cmp_in _ _ | exact pm_b8_in _ | (unfold pm_inI; split <;> omega)) (fun _ => ?_) (fun h => absurd (show (0 : Int) = (0 : Int) by omega) h)
    refine g_aload_n lk_93_11 rfl ?_
    refine g_getfield lk_93_12 rfl (lay.tb ht).1 (v := (tR T : Int)) hM.1 ?_
    refine g_istore (ls' := [(2, ((t : Nat) : Int)), (0, 0), (0, (o : Int)), (0, (p : Int)), (0, (tR T : Int)), (9, 0), (9, 0), (9, 0), (9, 0)]) lk_93_15 rfl rfl ?_
    refine g_iload_n lk_93_17 rfl ?_
    refine g_if (t := 37) lk_93_18 rfl (by first | (unfold pm_inI; omega) | exact pm_and_in _ _ | exact pm_shr_in _ _ | exact pm_or_in _ _ | exact pm_xor_in _ _ | exact pm_shl_in _ _ | exact pm_cmp_in _ _ | exact pm_b8_in _ | (unfold pm_inI; split <;> omega)) (fun h1 => ?_) (fun h1 => ?_)
    · replace h1 : (o : Int) < 0 := h1
      refine g_iconst lk_93_37 ?_
      refine g_ireturn lk_93_38 (fun h => absurd h (by decide)) ?_
      exfalso; omega
    · replace h1 : ¬ ((o : Int) < 0) := h1
      refine g_iload_n lk_93_21 rfl ?_
      refine g_iload lk_93_22 rfl ?_
      refine g_icmp (t := 37) lk_93_24 rfl (by first | (unfold pm_inI; omega) | exact pm_and_in _ _ | exact pm_shr_in _ _ | exact pm_or_in _ _ | exact pm_xor_in _ _ | exact pm_shl_in _ _ | exact pm_cmp_in _ _ | exact pm_b8_in _ | (unfold pm_inI; split <;> omega)) (by first | (unfold pm_inI; omega) | exact pm_and_in _ _ | exact pm_shr_in _ _ | exact pm_or_in _ _ | exact pm_xor_in _ _ | exact pm_shl_in _ _ | exact pm_cmp_in _ _ | exact pm_b8_in _ | (unfold pm_inI; split <;> omega)) (fun h2 => ?_) (fun h2 => ?_)
      · replace h2 : (tR T : Int) ≤ (o : Int) := h2
        refine g_iconst lk_93_37 ?_
        refine g_ireturn lk_93_38 (fun h => absurd h (by decide)) ?_
        exfalso; omega
      · replace h2 : ¬ ((tR T : Int) ≤ (o : Int)) := h2
        refine g_iload_n lk_93_27 rfl ?_
        refine g_if (t := 37) lk_93_28 rfl (by first | (unfold pm_inI; omega) | exact pm_and_in _ _ | exact pm_shr_in _ _ | exact pm_or_in _ _ | exact pm_xor_in _ _ | exact pm_shl_in _ _ | exact pm_cmp_in _ _ | exact pm_b8_in _ | (unfold pm_inI; split <;> omega)) (fun h3 => ?_) (fun h3 => ?_)
        · replace h3 : (p : Int) < 0 := h3
          refine g_iconst lk_93_37 ?_
          refine g_ireturn lk_93_38 (fun h => absurd h (by decide)) ?_
          exfalso; omega
        · replace h3 : ¬ ((p : Int) < 0) := h3
          refine g_iload_n lk_93_31 rfl ?_
          refine g_iload lk_93_32 rfl ?_
          refine g_icmp (t := 39) lk_93_34 rfl (by first | (unfold pm_inI; omega) | exact pm_and_in _ _ | exact pm_shr_in _ _ | exact pm_or_in _ _ | exact pm_xor_in _ _ | exact pm_shl_in _ _ | exact pm_cmp_in _ _ | exact pm_b8_in _ | (unfold pm_inI; split <;> omega)) (by first | (unfold pm_inI; omega) | exact pm_and_in _ _ | exact pm_shr_in _ _ | exact pm_or_in _ _ | exact pm_xor_in _ _ | exact pm_shl_in _ _ | exact pm_cmp_in _ _ | exact pm_b8_in _ | (unfold pm_inI; split <;> omega)) (fun h4 => ?_) (fun h4 => ?_)
          · replace h4 : (p : Int) < (tR T : Int) := h4
            refine g_iload_n lk_93_39 rfl ?_
            refine g_if (t := 50) lk_93_40 rfl (by first | (unfold pm_inI; omega) | exact pm_and_in _ _ | exact pm_shr_in _ _ | exact pm_or_in _ _ | exact pm_xor_in _ _ | exact pm_shl_in _ _ | exact pm_cmp_in _ _ | exact pm_b8_in _ | (unfold pm_inI; split <;> omega)) (fun _ => ?_) (fun h => absurd (show (0 : Int) = (0 : Int) by omega) h)
            refine g_aload_n lk_93_50 rfl ?_
            refine g_getfield lk_93_51 rfl (lay.tb ht).1 (v := (tC T : Int)) hM.2.1 ?_
            refine g_istore (ls' := [(2, ((t : Nat) : Int)), (0, 0), (0, (o : Int)), (0, (p : Int)), (0, (tR T : Int)), (0, (tC T : Int)), (9, 0), (9, 0), (9, 0)]) lk_93_54 rfl rfl ?_
            refine g_iconst lk_93_56 ?_
            refine g_istore (ls' := [(2, ((t : Nat) : Int)), (0, 0), (0, (o : Int)), (0, (p : Int)), (0, (tR T : Int)), (0, (tC T : Int)), (0, 0), (9, 0), (9, 0)]) lk_93_57 rfl rfl ?_
            exact loop (tC T) 0 _ _ (by omega) hans
          · replace h4 : ¬ ((p : Int) < (tR T : Int)) := h4
            refine g_iconst lk_93_37 ?_
            refine g_ireturn lk_93_38 (fun h => absurd h (by decide)) ?_
            exfalso; omega
  · skip
    refine g_iload_n lk_93_0 rfl ?_
    refine g_if (t := 11) lk_93_1 rfl (by first | (unfold pm_inI; omega) | exact pm_and_in _ _ | exact pm_shr_in _ _ | exact pm_or_in _ _ | exact pm_xor_in _ _ | exact pm_shl_in _ _ | exact pm_cmp_in _ _ | exact pm_b8_in _ | (unfold pm_inI; split <;> omega)) (fun _ => ?_) (fun h => absurd (show (0 : Int) = (0 : Int) by omega) h)
    refine g_aload_n lk_93_11 rfl ?_
    refine g_getfield lk_93_12 rfl (lay.tb ht).1 (v := (tR T : Int)) hM.1 ?_
    refine g_istore (ls' := [(2, ((t : Nat) : Int)), (0, 0), (0, o), (0, p), (0, (tR T : Int)), (9, 0), (9, 0), (9, 0), (9, 0)]) lk_93_15 rfl rfl ?_
    refine g_iload_n lk_93_17 rfl ?_
    refine g_if (t := 37) lk_93_18 rfl (by first | (unfold pm_inI; omega) | exact pm_and_in _ _ | exact pm_shr_in _ _ | exact pm_or_in _ _ | exact pm_xor_in _ _ | exact pm_shl_in _ _ | exact pm_cmp_in _ _ | exact pm_b8_in _ | (unfold pm_inI; split <;> omega)) (fun h1 => ?_) (fun h1 => ?_)
    · replace h1 : o < 0 := h1
      refine g_iconst lk_93_37 ?_
      refine g_ireturn lk_93_38 (fun h => absurd h (by decide)) ?_
      rw [hQ]
      exact ⟨congrArg (fun z => some ((0 : Nat), z)) (if_neg hin).symm, rfl⟩
    · replace h1 : ¬ (o < 0) := h1
      refine g_iload_n lk_93_21 rfl ?_
      refine g_iload lk_93_22 rfl ?_
      refine g_icmp (t := 37) lk_93_24 rfl (by first | (unfold pm_inI; omega) | exact pm_and_in _ _ | exact pm_shr_in _ _ | exact pm_or_in _ _ | exact pm_xor_in _ _ | exact pm_shl_in _ _ | exact pm_cmp_in _ _ | exact pm_b8_in _ | (unfold pm_inI; split <;> omega)) (by first | (unfold pm_inI; omega) | exact pm_and_in _ _ | exact pm_shr_in _ _ | exact pm_or_in _ _ | exact pm_xor_in _ _ | exact pm_shl_in _ _ | exact pm_cmp_in _ _ | exact pm_b8_in _ | (unfold pm_inI; split <;> omega)) (fun h2 => ?_) (fun h2 => ?_)
      · replace h2 : (tR T : Int) ≤ o := h2
        refine g_iconst lk_93_37 ?_
        refine g_ireturn lk_93_38 (fun h => absurd h (by decide)) ?_
        rw [hQ]
        exact ⟨congrArg (fun z => some ((0 : Nat), z)) (if_neg hin).symm, rfl⟩
      · replace h2 : ¬ ((tR T : Int) ≤ o) := h2
        refine g_iload_n lk_93_27 rfl ?_
        refine g_if (t := 37) lk_93_28 rfl (by first | (unfold pm_inI; omega) | exact pm_and_in _ _ | exact pm_shr_in _ _ | exact pm_or_in _ _ | exact pm_xor_in _ _ | exact pm_shl_in _ _ | exact pm_cmp_in _ _ | exact pm_b8_in _ | (unfold pm_inI; split <;> omega)) (fun h3 => ?_) (fun h3 => ?_)
        · replace h3 : p < 0 := h3
          refine g_iconst lk_93_37 ?_
          refine g_ireturn lk_93_38 (fun h => absurd h (by decide)) ?_
          rw [hQ]
          exact ⟨congrArg (fun z => some ((0 : Nat), z)) (if_neg hin).symm, rfl⟩
        · replace h3 : ¬ (p < 0) := h3
          refine g_iload_n lk_93_31 rfl ?_
          refine g_iload lk_93_32 rfl ?_
          refine g_icmp (t := 39) lk_93_34 rfl (by first | (unfold pm_inI; omega) | exact pm_and_in _ _ | exact pm_shr_in _ _ | exact pm_or_in _ _ | exact pm_xor_in _ _ | exact pm_shl_in _ _ | exact pm_cmp_in _ _ | exact pm_b8_in _ | (unfold pm_inI; split <;> omega)) (by first | (unfold pm_inI; omega) | exact pm_and_in _ _ | exact pm_shr_in _ _ | exact pm_or_in _ _ | exact pm_xor_in _ _ | exact pm_shl_in _ _ | exact pm_cmp_in _ _ | exact pm_b8_in _ | (unfold pm_inI; split <;> omega)) (fun h4 => ?_) (fun h4 => ?_)
          · replace h4 : p < (tR T : Int) := h4
            refine g_iload_n lk_93_39 rfl ?_
            refine g_if (t := 50) lk_93_40 rfl (by first | (unfold pm_inI; omega) | exact pm_and_in _ _ | exact pm_shr_in _ _ | exact pm_or_in _ _ | exact pm_xor_in _ _ | exact pm_shl_in _ _ | exact pm_cmp_in _ _ | exact pm_b8_in _ | (unfold pm_inI; split <;> omega)) (fun _ => ?_) (fun h => absurd (show (0 : Int) = (0 : Int) by omega) h)
            refine g_aload_n lk_93_50 rfl ?_
            refine g_getfield lk_93_51 rfl (lay.tb ht).1 (v := (tC T : Int)) hM.2.1 ?_
            refine g_istore (ls' := [(2, ((t : Nat) : Int)), (0, 0), (0, o), (0, p), (0, (tR T : Int)), (0, (tC T : Int)), (9, 0), (9, 0), (9, 0)]) lk_93_54 rfl rfl ?_
            refine g_iconst lk_93_56 ?_
            refine g_istore (ls' := [(2, ((t : Nat) : Int)), (0, 0), (0, o), (0, p), (0, (tR T : Int)), (0, (tC T : Int)), (0, 0), (9, 0), (9, 0)]) lk_93_57 rfl rfl ?_
            exfalso; omega
          · replace h4 : ¬ (p < (tR T : Int)) := h4
            refine g_iconst lk_93_37 ?_
            refine g_ireturn lk_93_38 (fun h => absurd h (by decide)) ?_
            rw [hQ]
            exact ⟨congrArg (fun z => some ((0 : Nat), z)) (if_neg hin).symm, rfl⟩
set_option maxHeartbeats 4000000 in
theorem c_Mo_conflict0 {d mc ms : Nat} {M : pm_M} (lay0 : Lay M) {T : Tab} (hT : TabOK T) (hM0 : MoAt M T) {o p : Int} (ho : pm_inI o) (hp : pm_inI p) :
    pm_E (d + 1) 217 [(2, ((116 : Nat) : Int)), (0, 0), (0, o), (0, p)] M mc ms (fun ρ M' => ρ = some (0, sConf T false o p) ∧ Lay M' ∧ M' = Mu [(116, pm_upd (pm_ct M 116) 0 0)] M) := by
  obtain ⟨Q, hQ⟩ : ∃ Q : pm_Q, Q = (fun ρ M' => ρ = some (0, sConf T false o p) ∧ Lay M' ∧ M' = Mu [(116, pm_upd (pm_ct M 116) 0 0)] M) := ⟨_, rfl⟩
  rw [← hQ]
  obtain ⟨N, hN⟩ : ∃ N, N = Mu [(116, pm_upd (pm_ct M 116) 0 0)] M := ⟨_, rfl⟩
  have hM : MoAt N T := by rw [hN]; exact hM0
  have lay : Lay N := by rw [hN]; exact lay0.muF (l := []) (a := 116) (k := 0) (z := 0) rfl rfl
  have hR := hT.1
  have hC := hT.2.1
  have ho' := ho
  have hp' := hp
  unfold pm_inI at ho' hp'
  show Wp (d + 1) 217 0 [(2, ((116 : Nat) : Int)), (0, 0), (0, o), (0, p), (9, 0), (9, 0), (9, 0)] [] M mc ms Q
  suffices hs : Wp (d + 1) 217 5 [(2, ((116 : Nat) : Int)), (0, 0), (0, o), (0, p), (9, 0), (9, 0), (9, 0)] [] N mc ms Q by
    refine g_aload_n lk_217_0 rfl ?_
    refine g_iconst lk_217_1 ?_
    have lay1 : Lay (Mu [(116, pm_upd (pm_ct M 116) 0 0)] M) := lay0.muF (l := []) (a := 116) (k := 0) (z := 0) rfl rfl
    refine m_putfield (u := []) (u' := [(116, pm_upd (pm_ct M 116) 0 0)]) (M := M) lk_217_2 rfl (lay0.on (by decide) rfl) (fun h => absurd h (by decide)) rfl ?_
    rw [← hN]
    exact hs
  by_cases hin : (0 ≤ o ∧ o < (tR T : Int)) ∧ (0 ≤ p ∧ p < (tR T : Int))
  · obtain ⟨o, rfl⟩ := Int.eq_ofNat_of_zero_le hin.1.1
    obtain ⟨p, rfl⟩ := Int.eq_ofNat_of_zero_le hin.2.1
    have hans : sConf T false (o : Int) (p : Int) = ffr (cfP T false o p) (tC T) 0 := if_pos hin
    have loop : ∀ (n i : Nat) (v6 : pm_V), i + n = tC T → sConf T false (o : Int) (p : Int) = ffr (cfP T false o p) n i → Wp (d + 1) 217 51 [(2, ((116 : Nat) : Int)), (0, 0), (0, (o : Int)), (0, (p : Int)), (0, (tR T : Int)), (0, (i : Int)), v6] [] N mc ms Q := by
      intro n
      induction n with
      | zero =>
        intro i v6 hi he
        refine g_iload lk_217_51 rfl ?_
        refine g_iload_n lk_217_53 rfl ?_
        refine g_if (t := 64) lk_217_54 rfl (by first | (unfold pm_inI; omega) | exact pm_and_in _ _ | exact pm_shr_in _ _ | exact pm_or_in _ _ | exact pm_xor_in _ _ | exact pm_shl_in _ _ | exact pm_cmp_in _ _ | exact pm_b8_in _ | (unfold pm_inI; split <;> omega)) (fun _ => ?_) (fun h => absurd (show (0 : Int) = (0 : Int) by omega) h)
        refine g_aload_n lk_217_64 rfl ?_
        refine m_getfield (u := []) (M := N) lk_217_65 rfl (lay.on (by decide) rfl) (v := (tC T : Int)) hM.2.1 ?_
        refine g_icmp (t := 130) lk_217_68 rfl (by first | (unfold pm_inI; omega) | exact pm_and_in _ _ | exact pm_shr_in _ _ | exact pm_or_in _ _ | exact pm_xor_in _ _ | exact pm_shl_in _ _ | exact pm_cmp_in _ _ | exact pm_b8_in _ | (unfold pm_inI; split <;> omega)) (by first | (unfold pm_inI; omega) | exact pm_and_in _ _ | exact pm_shr_in _ _ | exact pm_or_in _ _ | exact pm_xor_in _ _ | exact pm_shl_in _ _ | exact pm_cmp_in _ _ | exact pm_b8_in _ | (unfold pm_inI; split <;> omega)) (fun h1 => ?_) (fun h1 => ?_)
        · replace h1 : (tC T : Int) ≤ (i : Int) := h1
          refine g_iconst lk_217_130 ?_
          refine g_ireturn lk_217_131 (fun h => absurd h (by decide)) ?_
          rw [hQ, he]
          exact ⟨rfl, lay, hN⟩
        · replace h1 : ¬ ((tC T : Int) ≤ (i : Int)) := h1
          refine g_iload_n lk_217_71 rfl ?_
          refine g_if (t := 96) lk_217_72 rfl (by first | (unfold pm_inI; omega) | exact pm_and_in _ _ | exact pm_shr_in _ _ | exact pm_or_in _ _ | exact pm_xor_in _ _ | exact pm_shl_in _ _ | exact pm_cmp_in _ _ | exact pm_b8_in _ | (unfold pm_inI; split <;> omega)) (fun _ => ?_) (fun h => absurd (show (0 : Int) = (0 : Int) by omega) h)
          refine g_aload_n lk_217_96 rfl ?_
          refine g_aload_n lk_217_97 rfl ?_
          refine g_iload_n lk_217_98 rfl ?_
          refine g_iload lk_217_99 rfl ?_
          omega
      | succ n ih =>
        intro i v6 hi he
        have e := ffr_s (cfP T false o p) n i
        have hx1 := hT.2.2.1 (6 * o + i)
        have hx2 := hT.2.2.1 (6 * p + i)
        have hP : cfP T false o p i = clash (tX T (6 * o + i)) (tX T (6 * p + i)) := rfl
        refine g_iload lk_217_51 rfl ?_
        refine g_iload_n lk_217_53 rfl ?_
        refine g_if (t := 64) lk_217_54 rfl (by first | (unfold pm_inI; omega) | exact pm_and_in _ _ | exact pm_shr_in _ _ | exact pm_or_in _ _ | exact pm_xor_in _ _ | exact pm_shl_in _ _ | exact pm_cmp_in _ _ | exact pm_b8_in _ | (unfold pm_inI; split <;> omega)) (fun _ => ?_) (fun h => absurd (show (0 : Int) = (0 : Int) by omega) h)
        refine g_aload_n lk_217_64 rfl ?_
        refine m_getfield (u := []) (M := N) lk_217_65 rfl (lay.on (by decide) rfl) (v := (tC T : Int)) hM.2.1 ?_
        refine g_icmp (t := 130) lk_217_68 rfl (by first | (unfold pm_inI; omega) | exact pm_and_in _ _ | exact pm_shr_in _ _ | exact pm_or_in _ _ | exact pm_xor_in _ _ | exact pm_shl_in _ _ | exact pm_cmp_in _ _ | exact pm_b8_in _ | (unfold pm_inI; split <;> omega)) (by first | (unfold pm_inI; omega) | exact pm_and_in _ _ | exact pm_shr_in _ _ | exact pm_or_in _ _ | exact pm_xor_in _ _ | exact pm_shl_in _ _ | exact pm_cmp_in _ _ | exact pm_b8_in _ | (unfold pm_inI; split <;> omega)) (fun h1 => ?_) (fun h1 => ?_)
        · replace h1 : (tC T : Int) ≤ (i : Int) := h1
          refine g_iconst lk_217_130 ?_
          refine g_ireturn lk_217_131 (fun h => absurd h (by decide)) ?_
          omega
        · replace h1 : ¬ ((tC T : Int) ≤ (i : Int)) := h1
          refine g_iload_n lk_217_71 rfl ?_
          refine g_if (t := 96) lk_217_72 rfl (by first | (unfold pm_inI; omega) | exact pm_and_in _ _ | exact pm_shr_in _ _ | exact pm_or_in _ _ | exact pm_xor_in _ _ | exact pm_shl_in _ _ | exact pm_cmp_in _ _ | exact pm_b8_in _ | (unfold pm_inI; split <;> omega)) (fun _ => ?_) (fun h => absurd (show (0 : Int) = (0 : Int) by omega) h)
          refine g_aload_n lk_217_96 rfl ?_
          refine g_aload_n lk_217_97 rfl ?_
          refine g_iload_n lk_217_98 rfl ?_
          refine g_iload lk_217_99 rfl ?_
          refine g_virtual (p := 116) (Qc := _) lk_217_101 rfl (Nat.le_of_ble_eq_true rfl) rfl rfl (lay.on (by decide) rfl) (Nat.le_of_ble_eq_true rfl) (Nat.le_of_ble_eq_true rfl) (Nat.zero_le _) (Nat.zero_le _) (c_Mo_cellAt lay hM (by omega) (by omega)) ?_
          rintro _ N2 ⟨rfl, hN2⟩
          rw [hN2]
          show Wp _ 217 104 [(2, ((116 : Nat) : Int)), (0, 0), (0, (o : Int)), (0, (p : Int)), (0, (tR T : Int)), (0, (i : Int)), v6] [(0, (tX T (6 * o + i) : Int)), (2, ((116 : Nat) : Int))] N _ _ _
          refine g_aload_n lk_217_104 rfl ?_
          refine g_iload_n lk_217_105 rfl ?_
          refine g_iload lk_217_106 rfl ?_
          refine g_virtual (p := 116) (Qc := _) lk_217_108 rfl (Nat.le_of_ble_eq_true rfl) rfl rfl (lay.on (by decide) rfl) (Nat.le_of_ble_eq_true rfl) (Nat.le_of_ble_eq_true rfl) (Nat.zero_le _) (Nat.zero_le _) (c_Mo_cellAt lay hM (by omega) (by omega)) ?_
          rintro _ N3 ⟨rfl, hN3⟩
          rw [hN3]
          show Wp _ 217 111 [(2, ((116 : Nat) : Int)), (0, 0), (0, (o : Int)), (0, (p : Int)), (0, (tR T : Int)), (0, (i : Int)), v6] [(0, (tX T (6 * p + i) : Int)), (0, (tX T (6 * o + i) : Int)), (2, ((116 : Nat) : Int))] N _ _ _
          refine g_virtual (p := 116) (Qc := _) lk_217_111 rfl (Nat.le_of_ble_eq_true rfl) rfl rfl (lay.on (by decide) rfl) (Nat.le_of_ble_eq_true rfl) (Nat.le_of_ble_eq_true rfl) (Nat.zero_le _) (Nat.zero_le _) (c_Mo_areUnlike hx1 hx2) ?_
          rintro _ N4 ⟨rfl, hN4⟩
          rw [hN4]
          show Wp _ 217 114 [(2, ((116 : Nat) : Int)), (0, 0), (0, (o : Int)), (0, (p : Int)), (0, (tR T : Int)), (0, (i : Int)), v6] [(0, (if clash (tX T (6 * o + i)) (tX T (6 * p + i)) then (1 : Int) else 0))] N _ _ _
          refine g_istore (ls' := [(2, ((116 : Nat) : Int)), (0, 0), (0, (o : Int)), (0, (p : Int)), (0, (tR T : Int)), (0, (i : Int)), (0, (if clash (tX T (6 * o + i)) (tX T (6 * p + i)) then (1 : Int) else 0))]) lk_217_114 rfl rfl ?_
          refine g_iload lk_217_116 rfl ?_
          refine g_if (t := 124) lk_217_118 rfl (by first | (unfold pm_inI; omega) | exact pm_and_in _ _ | exact pm_shr_in _ _ | exact pm_or_in _ _ | exact pm_xor_in _ _ | exact pm_shl_in _ _ | exact pm_cmp_in _ _ | exact pm_b8_in _ | (unfold pm_inI; split <;> omega)) (fun h5 => ?_) (fun h5 => ?_)
          · replace h5 : (if clash (tX T (6 * o + i)) (tX T (6 * p + i)) then (1 : Int) else 0) = 0 := h5
            refine g_iinc (ls' := [(2, ((116 : Nat) : Int)), (0, 0), (0, (o : Int)), (0, (p : Int)), (0, (tR T : Int)), (0, ((i : Int) + 1)), (0, (if clash (tX T (6 * o + i)) (tX T (6 * p + i)) then (1 : Int) else 0))]) lk_217_124 rfl rfl rfl ?_
            refine g_goto (t := 51) lk_217_127 rfl ?_
            rw [hP] at e
            rw [if_neg (fun q => by rw [if_pos q] at h5; omega)] at e
            exact ih (i + 1) _ (by omega) (he.trans e)
          · replace h5 : ¬ ((if clash (tX T (6 * o + i)) (tX T (6 * p + i)) then (1 : Int) else 0) = 0) := h5
            refine g_iload lk_217_121 rfl ?_
            refine g_ireturn lk_217_123 (fun h => absurd h (by decide)) ?_
            rw [hP] at e
            rw [if_pos (Classical.byContradiction (fun q => h5 (by rw [if_neg q])))] at e
            rw [hQ, he.trans e]
            exact ⟨rfl, lay, hN⟩
    refine g_iload_n lk_217_5 rfl ?_
    refine g_if (t := 16) lk_217_6 rfl (by first | (unfold pm_inI; omega) | exact pm_and_in _ _ | exact pm_shr_in _ _ | exact pm_or_in _ _ | exact pm_xor_in _ _ | exact pm_shl_in _ _ | exact pm_cmp_in _ _ | exact pm_b8_in _ | (unfold pm_inI; split <;> omega)) (fun _ => ?_) (fun h => absurd (show (0 : Int) = (0 : Int) by omega) h)
    refine g_aload_n lk_217_16 rfl ?_
    refine m_getfield (u := []) (M := N) lk_217_17 rfl (lay.on (by decide) rfl) (v := (tR T : Int)) hM.1 ?_
    refine g_istore (ls' := [(2, ((116 : Nat) : Int)), (0, 0), (0, (o : Int)), (0, (p : Int)), (0, (tR T : Int)), (9, 0), (9, 0)]) lk_217_20 rfl rfl ?_
    refine g_iload_n lk_217_22 rfl ?_
    refine g_iconst lk_217_23 ?_
    refine g_iload lk_217_24 rfl ?_
    refine g_iconst lk_217_26 ?_
    refine g_isub lk_217_27 ?_
    refine g_static (Qc := _) lk_217_28 (by decide) rfl (Nat.le_of_ble_eq_true rfl) rfl rfl (Nat.le_of_ble_eq_true rfl) (Nat.le_of_ble_eq_true rfl) (Nat.zero_le _) (Nat.zero_le _) (c_Mo_in (by unfold pm_inI; omega) (by unfold pm_inI; omega) (by unfold pm_inI; omega)) ?_
    rintro _ N1 ⟨rfl, hN1⟩
    rw [hN1]
    show Wp _ 217 31 [(2, ((116 : Nat) : Int)), (0, 0), (0, (o : Int)), (0, (p : Int)), (0, (tR T : Int)), (9, 0), (9, 0)] [(0, (if 0 ≤ (o : Int) ∧ (o : Int) ≤ ((tR T : Int) - 1) then (1 : Int) else 0))] N _ _ _
    refine g_if (t := 46) lk_217_31 rfl (by first | (unfold pm_inI; omega) | exact pm_and_in _ _ | exact pm_shr_in _ _ | exact pm_or_in _ _ | exact pm_xor_in _ _ | exact pm_shl_in _ _ | exact pm_cmp_in _ _ | exact pm_b8_in _ | (unfold pm_inI; split <;> omega)) (fun h2 => ?_) (fun h2 => ?_)
    · replace h2 : (if 0 ≤ (o : Int) ∧ (o : Int) ≤ ((tR T : Int) - 1) then (1 : Int) else 0) = 0 := h2
      refine g_iconst lk_217_46 ?_
      refine g_ireturn lk_217_47 (fun h => absurd h (by decide)) ?_
      exfalso
      split at h2 <;> omega
    · replace h2 : ¬ ((if 0 ≤ (o : Int) ∧ (o : Int) ≤ ((tR T : Int) - 1) then (1 : Int) else 0) = 0) := h2
      refine g_iload_n lk_217_34 rfl ?_
      refine g_iconst lk_217_35 ?_
      refine g_iload lk_217_36 rfl ?_
      refine g_iconst lk_217_38 ?_
      refine g_isub lk_217_39 ?_
      refine g_static (Qc := _) lk_217_40 (by decide) rfl (Nat.le_of_ble_eq_true rfl) rfl rfl (Nat.le_of_ble_eq_true rfl) (Nat.le_of_ble_eq_true rfl) (Nat.zero_le _) (Nat.zero_le _) (c_Mo_in (by unfold pm_inI; omega) (by unfold pm_inI; omega) (by unfold pm_inI; omega)) ?_
      rintro _ N3 ⟨rfl, hN3⟩
      rw [hN3]
      show Wp _ 217 43 [(2, ((116 : Nat) : Int)), (0, 0), (0, (o : Int)), (0, (p : Int)), (0, (tR T : Int)), (9, 0), (9, 0)] [(0, (if 0 ≤ (p : Int) ∧ (p : Int) ≤ ((tR T : Int) - 1) then (1 : Int) else 0))] N _ _ _
      refine g_if (t := 48) lk_217_43 rfl (by first | (unfold pm_inI; omega) | exact pm_and_in _ _ | exact pm_shr_in _ _ | exact pm_or_in _ _ | exact pm_xor_in _ _ | exact pm_shl_in _ _ | exact pm_cmp_in _ _ | exact pm_b8_in _ | (unfold pm_inI; split <;> omega)) (fun h4 => ?_) (fun h4 => ?_)
      · replace h4 : ¬ (if 0 ≤ (p : Int) ∧ (p : Int) ≤ ((tR T : Int) - 1) then (1 : Int) else 0) = 0 := h4
        refine g_iconst lk_217_48 ?_
        refine g_istore (ls' := [(2, ((116 : Nat) : Int)), (0, 0), (0, (o : Int)), (0, (p : Int)), (0, (tR T : Int)), (0, 0), (9, 0)]) lk_217_49 rfl rfl ?_
        exact loop (tC T) 0 _ (by omega) hans
      · replace h4 : ¬ (¬ (if 0 ≤ (p : Int) ∧ (p : Int) ≤ ((tR T : Int) - 1) then (1 : Int) else 0) = 0) := h4
        refine g_iconst lk_217_46 ?_
        refine g_ireturn lk_217_47 (fun h => absurd h (by decide)) ?_
        exfalso
        split at h4 <;> omega
  · skip
    refine g_iload_n lk_217_5 rfl ?_
    refine g_if (t := 16) lk_217_6 rfl (by first | (unfold pm_inI; omega) | exact pm_and_in _ _ | exact pm_shr_in _ _ | exact pm_or_in _ _ | exact pm_xor_in _ _ | exact pm_shl_in _ _ | exact pm_cmp_in _ _ | exact pm_b8_in _ | (unfold pm_inI; split <;> omega)) (fun _ => ?_) (fun h => absurd (show (0 : Int) = (0 : Int) by omega) h)
    refine g_aload_n lk_217_16 rfl ?_
    refine m_getfield (u := []) (M := N) lk_217_17 rfl (lay.on (by decide) rfl) (v := (tR T : Int)) hM.1 ?_
    refine g_istore (ls' := [(2, ((116 : Nat) : Int)), (0, 0), (0, o), (0, p), (0, (tR T : Int)), (9, 0), (9, 0)]) lk_217_20 rfl rfl ?_
    refine g_iload_n lk_217_22 rfl ?_
    refine g_iconst lk_217_23 ?_
    refine g_iload lk_217_24 rfl ?_
    refine g_iconst lk_217_26 ?_
    refine g_isub lk_217_27 ?_
    refine g_static (Qc := _) lk_217_28 (by decide) rfl (Nat.le_of_ble_eq_true rfl) rfl rfl (Nat.le_of_ble_eq_true rfl) (Nat.le_of_ble_eq_true rfl) (Nat.zero_le _) (Nat.zero_le _) (c_Mo_in (by unfold pm_inI; omega) (by unfold pm_inI; omega) (by unfold pm_inI; omega)) ?_
    rintro _ N1 ⟨rfl, hN1⟩
    rw [hN1]
    show Wp _ 217 31 [(2, ((116 : Nat) : Int)), (0, 0), (0, o), (0, p), (0, (tR T : Int)), (9, 0), (9, 0)] [(0, (if 0 ≤ o ∧ o ≤ ((tR T : Int) - 1) then (1 : Int) else 0))] N _ _ _
    refine g_if (t := 46) lk_217_31 rfl (by first | (unfold pm_inI; omega) | exact pm_and_in _ _ | exact pm_shr_in _ _ | exact pm_or_in _ _ | exact pm_xor_in _ _ | exact pm_shl_in _ _ | exact pm_cmp_in _ _ | exact pm_b8_in _ | (unfold pm_inI; split <;> omega)) (fun h2 => ?_) (fun h2 => ?_)
    · replace h2 : (if 0 ≤ o ∧ o ≤ ((tR T : Int) - 1) then (1 : Int) else 0) = 0 := h2
      refine g_iconst lk_217_46 ?_
      refine g_ireturn lk_217_47 (fun h => absurd h (by decide)) ?_
      rw [hQ]
      exact ⟨congrArg (fun z => some ((0 : Nat), z)) (if_neg hin).symm, lay, hN⟩
    · replace h2 : ¬ ((if 0 ≤ o ∧ o ≤ ((tR T : Int) - 1) then (1 : Int) else 0) = 0) := h2
      refine g_iload_n lk_217_34 rfl ?_
      refine g_iconst lk_217_35 ?_
      refine g_iload lk_217_36 rfl ?_
      refine g_iconst lk_217_38 ?_
      refine g_isub lk_217_39 ?_
      refine g_static (Qc := _) lk_217_40 (by decide) rfl (Nat.le_of_ble_eq_true rfl) rfl rfl (Nat.le_of_ble_eq_true rfl) (Nat.le_of_ble_eq_true rfl) (Nat.zero_le _) (Nat.zero_le _) (c_Mo_in (by unfold pm_inI; omega) (by unfold pm_inI; omega) (by unfold pm_inI; omega)) ?_
      rintro _ N3 ⟨rfl, hN3⟩
      rw [hN3]
      show Wp _ 217 43 [(2, ((116 : Nat) : Int)), (0, 0), (0, o), (0, p), (0, (tR T : Int)), (9, 0), (9, 0)] [(0, (if 0 ≤ p ∧ p ≤ ((tR T : Int) - 1) then (1 : Int) else 0))] N _ _ _
      refine g_if (t := 48) lk_217_43 rfl (by first | (unfold pm_inI; omega) | exact pm_and_in _ _ | exact pm_shr_in _ _ | exact pm_or_in _ _ | exact pm_xor_in _ _ | exact pm_shl_in _ _ | exact pm_cmp_in _ _ | exact pm_b8_in _ | (unfold pm_inI; split <;> omega)) (fun h4 => ?_) (fun h4 => ?_)
      · replace h4 : ¬ (if 0 ≤ p ∧ p ≤ ((tR T : Int) - 1) then (1 : Int) else 0) = 0 := h4
        refine g_iconst lk_217_48 ?_
        refine g_istore (ls' := [(2, ((116 : Nat) : Int)), (0, 0), (0, o), (0, p), (0, (tR T : Int)), (0, 0), (9, 0)]) lk_217_49 rfl rfl ?_
        exfalso
        split at h4 <;> split at h2 <;> omega
      · replace h4 : ¬ (¬ (if 0 ≤ p ∧ p ≤ ((tR T : Int) - 1) then (1 : Int) else 0) = 0) := h4
        refine g_iconst lk_217_46 ?_
        refine g_ireturn lk_217_47 (fun h => absurd h (by decide)) ?_
        rw [hQ]
        exact ⟨congrArg (fun z => some ((0 : Nat), z)) (if_neg hin).symm, lay, hN⟩
