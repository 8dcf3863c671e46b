/-! ===== area ===== -/
def inArea (T : Tab) (r c : Int) : Prop := (1 ≤ r ∧ r ≤ ((2 ^ tR T - 1 : Nat) : Int)) ∧ (1 ≤ c ∧ c ≤ ((2 ^ tC T - 1 : Nat) : Int))
def sArea (T : Tab) (rs cs : Nat) (w : Int) : Int :=
  if w = 0 then (if pop (vIn T rs cs) < 2 then 1 else 0) else if w = 1 then (if pop (vIn T rs cs) < 2 then (if vIn T rs cs = 0 then 10 else (fstb (vIn T rs cs) : Int)) else -1) else if w = 2 then (nA T rs cs : Int) else if w = 3 then (pop (vIn T rs cs) : Int) else -1
set_option maxHeartbeats 8000000 in
theorem c_X_area {d mc ms : Nat} {M : pm_M} (lay : Lay M) {T : Tab} (hT : TabOK T) (hM : TbAt M 24 T) {r c w : Int} (hr : pm_inI r) (hc : pm_inI c) (hw : pm_inI w) :
    pm_E (d + 5) 125 [(2, ((1 : Nat) : Int)), (0, r), (0, c), (0, w)] M mc ms (fun ρ M' => ((¬ inArea T r c ∧ ρ = some (0, -1)) ∨ (inArea T r c ∧ ρ = some (0, sArea T r.toNat c.toNat w))) ∧ M' = M) := by
  have ht : (24 : Nat) = 4 ∨ (24 : Nat) = 24 := Or.inr rfl
  have hR := tR_64 hT
  have hC := tC_64 hT
  have hr' := hr
  have hc' := hc
  unfold pm_inI at hr' hc'
  by_cases hin : inArea T r c
  · obtain ⟨⟨i1, i2⟩, i3, i4⟩ := id hin
    obtain ⟨rs, rfl⟩ := Int.eq_ofNat_of_zero_le (show 0 ≤ r by omega)
    obtain ⟨cs, rfl⟩ := Int.eq_ofNat_of_zero_le (show 0 ≤ c by omega)
    have hv := vIn_lt T rs cs
    show Wp (d + 5) 125 0 [(2, ((1 : Nat) : Int)), (0, (rs : Int)), (0, (cs : Int)), (0, w), (9, 0)] [] M mc ms _
    have fin : ∀ z : Int, z = sArea T rs cs w → ((¬ inArea T (rs : Int) (cs : Int) ∧ some ((0 : Nat), z) = some (0, -1)) ∨ (inArea T (rs : Int) (cs : Int) ∧ some ((0 : Nat), z) = some (0, sArea T (rs : Int).toNat (cs : Int).toNat w))) ∧ M = M := fun z hz => ⟨Or.inr ⟨hin, by rw [hz]; rfl⟩, rfl⟩
    refine g_iload_n lk_125_0 rfl ?_
    refine g_if (t := 30) lk_125_1 rfl (by first | assumption | (unfold pm_inI; omega) | (unfold pm_inI; split <;> omega)) (fun h1 => ?_) (fun h1 => ?_)
    · replace h1 : (rs : Int) ≤ 0 := h1
      refine g_iconst lk_125_30 ?_
      refine g_ireturn lk_125_31 (fun h => absurd h (by decide)) ?_
      exfalso; omega
    · replace h1 : ¬ ((rs : Int) ≤ 0) := h1
      refine g_iload_n lk_125_4 rfl ?_
      refine g_aload_n lk_125_5 rfl ?_
      refine g_getfield lk_125_6 rfl (lay.on (by decide) rfl) (v := ((24 : Nat) : Int)) (lay.rf rfl) ?_
      refine g_virtual (p := 24) (Qc := _) lk_125_9 rfl (Nat.le_of_ble_eq_true rfl) rfl rfl (lay.on (by decide) rfl) (Nat.le_of_ble_eq_true rfl) (Nat.le_of_ble_eq_true rfl) (Nat.zero_le _) (Nat.zero_le _) (c_Table_allRows lay ht hT hM) ?_
      rintro _ N2 ⟨rfl, hN2⟩
      rw [hN2]
      show Wp _ 125 12 [(2, ((1 : Nat) : Int)), (0, (rs : Int)), (0, (cs : Int)), (0, w), (9, 0)] [(0, ((2 ^ tR T - 1 : Nat) : Int)), (0, (rs : Int))] M _ _ _
      refine g_icmp (t := 30) lk_125_12 rfl (by first | assumption | (unfold pm_inI; omega) | (unfold pm_inI; split <;> omega)) (by first | assumption | (unfold pm_inI; omega) | (unfold pm_inI; split <;> omega)) (fun h3 => ?_) (fun h3 => ?_)
      · replace h3 : ((2 ^ tR T - 1 : Nat) : Int) < (rs : Int) := h3
        refine g_iconst lk_125_30 ?_
        refine g_ireturn lk_125_31 (fun h => absurd h (by decide)) ?_
        exfalso; omega
      · replace h3 : ¬ (((2 ^ tR T - 1 : Nat) : Int) < (rs : Int)) := h3
        refine g_iload_n lk_125_15 rfl ?_
        refine g_if (t := 30) lk_125_16 rfl (by first | assumption | (unfold pm_inI; omega) | (unfold pm_inI; split <;> omega)) (fun h4 => ?_) (fun h4 => ?_)
        · replace h4 : (cs : Int) ≤ 0 := h4
          refine g_iconst lk_125_30 ?_
          refine g_ireturn lk_125_31 (fun h => absurd h (by decide)) ?_
          exfalso; omega
        · replace h4 : ¬ ((cs : Int) ≤ 0) := h4
          refine g_iload_n lk_125_19 rfl ?_
          refine g_aload_n lk_125_20 rfl ?_
          refine g_getfield lk_125_21 rfl (lay.on (by decide) rfl) (v := ((24 : Nat) : Int)) (lay.rf rfl) ?_
          refine g_virtual (p := 24) (Qc := _) lk_125_24 rfl (Nat.le_of_ble_eq_true rfl) rfl rfl (lay.on (by decide) rfl) (Nat.le_of_ble_eq_true rfl) (Nat.le_of_ble_eq_true rfl) (Nat.zero_le _) (Nat.zero_le _) (c_Table_allColumns lay ht hT hM) ?_
          rintro _ N5 ⟨rfl, hN5⟩
          rw [hN5]
          show Wp _ 125 27 [(2, ((1 : Nat) : Int)), (0, (rs : Int)), (0, (cs : Int)), (0, w), (9, 0)] [(0, ((2 ^ tC T - 1 : Nat) : Int)), (0, (cs : Int))] M _ _ _
          refine g_icmp (t := 32) lk_125_27 rfl (by first | assumption | (unfold pm_inI; omega) | (unfold pm_inI; split <;> omega)) (by first | assumption | (unfold pm_inI; omega) | (unfold pm_inI; split <;> omega)) (fun h6 => ?_) (fun h6 => ?_)
          · replace h6 : (cs : Int) ≤ ((2 ^ tC T - 1 : Nat) : Int) := h6
            refine g_aload_n lk_125_32 rfl ?_
            refine g_getfield lk_125_33 rfl (lay.on (by decide) rfl) (v := ((24 : Nat) : Int)) (lay.rf rfl) ?_
            refine g_iload_n lk_125_36 rfl ?_
            refine g_iload_n lk_125_37 rfl ?_
            refine g_virtual (p := 24) (Qc := _) lk_125_38 rfl (Nat.le_of_ble_eq_true rfl) rfl rfl (lay.on (by decide) rfl) (Nat.le_of_ble_eq_true rfl) (Nat.le_of_ble_eq_true rfl) (Nat.zero_le _) (Nat.zero_le _) (c_Table_valuesIn lay ht hT hM (by omega) (by omega)) ?_
            rintro _ N7 ⟨rfl, hN7⟩
            rw [hN7]
            show Wp _ 125 41 [(2, ((1 : Nat) : Int)), (0, (rs : Int)), (0, (cs : Int)), (0, w), (9, 0)] [(0, ((vIn T rs cs : Nat) : Int))] M _ _ _
            refine g_istore (ls' := [(2, ((1 : Nat) : Int)), (0, (rs : Int)), (0, (cs : Int)), (0, w), (0, ((vIn T rs cs : Nat) : Int))]) lk_125_41 rfl rfl ?_
            refine g_iload_n lk_125_43 rfl ?_
            refine g_tsw lk_125_44 (by first | assumption | (unfold pm_inI; omega) | (unfold pm_inI; split <;> omega)) (And.intro (fun h8 => ?_) (fun h8 => (And.intro (fun h9 => ?_) (fun h9 => (And.intro (fun h10 => ?_) (fun h10 => (And.intro (fun h11 => ?_) (fun h11 => ?_))))))))
            · replace h8 : w = 0 := h8
              show Wp _ 125 76 [(2, ((1 : Nat) : Int)), (0, (rs : Int)), (0, (cs : Int)), (0, w), (0, ((vIn T rs cs : Nat) : Int))] [] M _ _ _
              refine g_iload lk_125_76 rfl ?_
              refine g_static (Qc := _) lk_125_78 (by decide) rfl (Nat.le_of_ble_eq_true rfl) rfl rfl (Nat.le_of_ble_eq_true rfl) (Nat.le_of_ble_eq_true rfl) (Nat.zero_le _) (Nat.zero_le _) (c_X_isAlike hv) ?_
              rintro _ N13 ⟨rfl, hN13⟩
              rw [hN13]
              show Wp _ 125 81 [(2, ((1 : Nat) : Int)), (0, (rs : Int)), (0, (cs : Int)), (0, w), (0, ((vIn T rs cs : Nat) : Int))] [(0, (if pop (vIn T rs cs) < 2 then (1 : Int) else 0))] M _ _ _
              refine g_if (t := 88) lk_125_81 rfl (by first | assumption | (unfold pm_inI; omega) | (unfold pm_inI; split <;> omega)) (fun h14 => ?_) (fun h14 => ?_)
              · replace h14 : (if pop (vIn T rs cs) < 2 then (1 : Int) else 0) = 0 := h14
                refine g_iconst lk_125_88 ?_
                refine g_ireturn lk_125_89 (fun h => absurd h (by decide)) ?_
                refine fin _ ?_
                unfold sArea; simp_all
              · replace h14 : ¬ ((if pop (vIn T rs cs) < 2 then (1 : Int) else 0) = 0) := h14
                refine g_iconst lk_125_84 ?_
                refine g_goto (t := 89) lk_125_85 rfl ?_
                refine g_ireturn lk_125_89 (fun h => absurd h (by decide)) ?_
                refine fin _ ?_
                unfold sArea; simp_all
            · replace h9 : w = 1 := h9
              show Wp _ 125 90 [(2, ((1 : Nat) : Int)), (0, (rs : Int)), (0, (cs : Int)), (0, w), (0, ((vIn T rs cs : Nat) : Int))] [] M _ _ _
              refine g_iload lk_125_90 rfl ?_
              refine g_static (Qc := _) lk_125_92 (by decide) rfl (Nat.le_of_ble_eq_true rfl) rfl rfl (Nat.le_of_ble_eq_true rfl) (Nat.le_of_ble_eq_true rfl) (Nat.zero_le _) (Nat.zero_le _) (c_X_isAlike hv) ?_
              rintro _ N15 ⟨rfl, hN15⟩
              rw [hN15]
              show Wp _ 125 95 [(2, ((1 : Nat) : Int)), (0, (rs : Int)), (0, (cs : Int)), (0, w), (0, ((vIn T rs cs : Nat) : Int))] [(0, (if pop (vIn T rs cs) < 2 then (1 : Int) else 0))] M _ _ _
              refine g_if (t := 106) lk_125_95 rfl (by first | assumption | (unfold pm_inI; omega) | (unfold pm_inI; split <;> omega)) (fun h16 => ?_) (fun h16 => ?_)
              · replace h16 : (if pop (vIn T rs cs) < 2 then (1 : Int) else 0) = 0 := h16
                refine g_iconst lk_125_106 ?_
                refine g_ireturn lk_125_107 (fun h => absurd h (by decide)) ?_
                refine fin _ ?_
                unfold sArea; simp_all; intro q; omega
              · replace h16 : ¬ ((if pop (vIn T rs cs) < 2 then (1 : Int) else 0) = 0) := h16
                refine g_iload lk_125_98 rfl ?_
                refine g_static (Qc := _) lk_125_100 (by decide) rfl (Nat.le_of_ble_eq_true rfl) rfl rfl (Nat.le_of_ble_eq_true rfl) (Nat.le_of_ble_eq_true rfl) (Nat.zero_le _) (Nat.zero_le _) (c_X_onlyValue hv (Classical.byContradiction (fun q => h16 (by rw [if_neg q])))) ?_
                rintro _ N17 ⟨rfl, hN17⟩
                rw [hN17]
                show Wp _ 125 103 [(2, ((1 : Nat) : Int)), (0, (rs : Int)), (0, (cs : Int)), (0, w), (0, ((vIn T rs cs : Nat) : Int))] [(0, (if vIn T rs cs = 0 then (10 : Int) else (fstb (vIn T rs cs) : Int)))] M _ _ _
                refine g_goto (t := 107) lk_125_103 rfl ?_
                refine g_ireturn lk_125_107 (fun h => absurd h (by decide)) ?_
                refine fin _ ?_
                unfold sArea; simp_all
            · replace h10 : w = 2 := h10
              show Wp _ 125 108 [(2, ((1 : Nat) : Int)), (0, (rs : Int)), (0, (cs : Int)), (0, w), (0, ((vIn T rs cs : Nat) : Int))] [] M _ _ _
              refine g_aload_n lk_125_108 rfl ?_
              refine g_getfield lk_125_109 rfl (lay.on (by decide) rfl) (v := ((24 : Nat) : Int)) (lay.rf rfl) ?_
              refine g_iload_n lk_125_112 rfl ?_
              refine g_iload_n lk_125_113 rfl ?_
              refine g_virtual (p := 24) (Qc := _) lk_125_114 rfl (Nat.le_of_ble_eq_true rfl) rfl rfl (lay.on (by decide) rfl) (Nat.le_of_ble_eq_true rfl) (Nat.le_of_ble_eq_true rfl) (Nat.zero_le _) (Nat.zero_le _) (c_Table_filledIn lay ht hT hM (by omega) (by omega)) ?_
              rintro _ N18 ⟨rfl, hN18⟩
              rw [hN18]
              show Wp _ 125 117 [(2, ((1 : Nat) : Int)), (0, (rs : Int)), (0, (cs : Int)), (0, w), (0, ((vIn T rs cs : Nat) : Int))] [(0, ((uIn T rs cs 10 (tR T) : Nat) : Int))] M _ _ _
              refine g_ireturn lk_125_117 (fun h => absurd h (by decide)) ?_
              refine fin _ ?_
              rw [uIn_nU hT (by omega), nU_10]
              unfold sArea; simp_all
            · replace h11 : w = 3 := h11
              show Wp _ 125 118 [(2, ((1 : Nat) : Int)), (0, (rs : Int)), (0, (cs : Int)), (0, w), (0, ((vIn T rs cs : Nat) : Int))] [] M _ _ _
              refine g_iload lk_125_118 rfl ?_
              refine g_static (Qc := _) lk_125_120 (by decide) rfl (Nat.le_of_ble_eq_true rfl) rfl rfl (Nat.le_of_ble_eq_true rfl) (Nat.le_of_ble_eq_true rfl) (Nat.zero_le _) (Nat.zero_le _) (c_Integer_bitCount hv) ?_
              rintro _ N19 ⟨rfl, hN19⟩
              rw [hN19]
              show Wp _ 125 123 [(2, ((1 : Nat) : Int)), (0, (rs : Int)), (0, (cs : Int)), (0, w), (0, ((vIn T rs cs : Nat) : Int))] [(0, (pop (vIn T rs cs) : Int))] M _ _ _
              refine g_ireturn lk_125_123 (fun h => absurd h (by decide)) ?_
              refine fin _ ?_
              unfold sArea; simp_all
            · show Wp _ 125 124 [(2, ((1 : Nat) : Int)), (0, (rs : Int)), (0, (cs : Int)), (0, w), (0, ((vIn T rs cs : Nat) : Int))] [] M _ _ _
              replace h8 : ¬ w = 0 := h8
              replace h9 : ¬ w = 1 := h9
              replace h10 : ¬ w = 2 := h10
              replace h11 : ¬ w = 3 := h11
              refine g_iconst lk_125_124 ?_
              refine g_ireturn lk_125_125 (fun h => absurd h (by decide)) ?_
              refine fin _ ?_
              unfold sArea; simp_all
          · replace h6 : ¬ ((cs : Int) ≤ ((2 ^ tC T - 1 : Nat) : Int)) := h6
            refine g_iconst lk_125_30 ?_
            refine g_ireturn lk_125_31 (fun h => absurd h (by decide)) ?_
            exfalso; omega
  · have hn : ¬ ((1 ≤ r ∧ r ≤ ((2 ^ tR T - 1 : Nat) : Int)) ∧ (1 ≤ c ∧ c ≤ ((2 ^ tC T - 1 : Nat) : Int))) := hin
    show Wp (d + 5) 125 0 [(2, ((1 : Nat) : Int)), (0, r), (0, c), (0, w), (9, 0)] [] M mc ms _
    refine g_iload_n lk_125_0 rfl ?_
    refine g_if (t := 30) lk_125_1 rfl (by first | (unfold pm_inI; omega) | exact pm_and_in _ _ | exact pm_shr_in _ _ | exact pm_or_in _ _ | exact pm_xor_in _ _ | exact pm_shl_in _ _ | exact pm_cmp_in _ _ | exact pm_b8_in _ | (unfold pm_inI; split <;> omega)) (fun h1 => ?_) (fun h1 => ?_)
    · replace h1 : r ≤ 0 := h1
      refine g_iconst lk_125_30 ?_
      refine g_ireturn lk_125_31 (fun h => absurd h (by decide)) ?_
      exact ⟨Or.inl ⟨hin, rfl⟩, rfl⟩
    · replace h1 : ¬ (r ≤ 0) := h1
      refine g_iload_n lk_125_4 rfl ?_
      refine g_aload_n lk_125_5 rfl ?_
      refine g_getfield lk_125_6 rfl (lay.on (by decide) rfl) (v := ((24 : Nat) : Int)) (lay.rf rfl) ?_
      refine g_virtual (p := 24) (Qc := _) lk_125_9 rfl (Nat.le_of_ble_eq_true rfl) rfl rfl (lay.on (by decide) rfl) (Nat.le_of_ble_eq_true rfl) (Nat.le_of_ble_eq_true rfl) (Nat.zero_le _) (Nat.zero_le _) (c_Table_allRows lay ht hT hM) ?_
      rintro _ N2 ⟨rfl, hN2⟩
      rw [hN2]
      show Wp _ 125 12 [(2, ((1 : Nat) : Int)), (0, r), (0, c), (0, w), (9, 0)] [(0, ((2 ^ tR T - 1 : Nat) : Int)), (0, r)] M _ _ _
      refine g_icmp (t := 30) lk_125_12 rfl (by first | (unfold pm_inI; omega) | exact pm_and_in _ _ | exact pm_shr_in _ _ | exact pm_or_in _ _ | exact pm_xor_in _ _ | exact pm_shl_in _ _ | exact pm_cmp_in _ _ | exact pm_b8_in _ | (unfold pm_inI; split <;> omega)) (by first | (unfold pm_inI; omega) | exact pm_and_in _ _ | exact pm_shr_in _ _ | exact pm_or_in _ _ | exact pm_xor_in _ _ | exact pm_shl_in _ _ | exact pm_cmp_in _ _ | exact pm_b8_in _ | (unfold pm_inI; split <;> omega)) (fun h3 => ?_) (fun h3 => ?_)
      · replace h3 : ((2 ^ tR T - 1 : Nat) : Int) < r := h3
        refine g_iconst lk_125_30 ?_
        refine g_ireturn lk_125_31 (fun h => absurd h (by decide)) ?_
        exact ⟨Or.inl ⟨hin, rfl⟩, rfl⟩
      · replace h3 : ¬ (((2 ^ tR T - 1 : Nat) : Int) < r) := h3
        refine g_iload_n lk_125_15 rfl ?_
        refine g_if (t := 30) lk_125_16 rfl (by first | (unfold pm_inI; omega) | exact pm_and_in _ _ | exact pm_shr_in _ _ | exact pm_or_in _ _ | exact pm_xor_in _ _ | exact pm_shl_in _ _ | exact pm_cmp_in _ _ | exact pm_b8_in _ | (unfold pm_inI; split <;> omega)) (fun h4 => ?_) (fun h4 => ?_)
        · replace h4 : c ≤ 0 := h4
          refine g_iconst lk_125_30 ?_
          refine g_ireturn lk_125_31 (fun h => absurd h (by decide)) ?_
          exact ⟨Or.inl ⟨hin, rfl⟩, rfl⟩
        · replace h4 : ¬ (c ≤ 0) := h4
          refine g_iload_n lk_125_19 rfl ?_
          refine g_aload_n lk_125_20 rfl ?_
          refine g_getfield lk_125_21 rfl (lay.on (by decide) rfl) (v := ((24 : Nat) : Int)) (lay.rf rfl) ?_
          refine g_virtual (p := 24) (Qc := _) lk_125_24 rfl (Nat.le_of_ble_eq_true rfl) rfl rfl (lay.on (by decide) rfl) (Nat.le_of_ble_eq_true rfl) (Nat.le_of_ble_eq_true rfl) (Nat.zero_le _) (Nat.zero_le _) (c_Table_allColumns lay ht hT hM) ?_
          rintro _ N5 ⟨rfl, hN5⟩
          rw [hN5]
          show Wp _ 125 27 [(2, ((1 : Nat) : Int)), (0, r), (0, c), (0, w), (9, 0)] [(0, ((2 ^ tC T - 1 : Nat) : Int)), (0, c)] M _ _ _
          refine g_icmp (t := 32) lk_125_27 rfl (by first | (unfold pm_inI; omega) | exact pm_and_in _ _ | exact pm_shr_in _ _ | exact pm_or_in _ _ | exact pm_xor_in _ _ | exact pm_shl_in _ _ | exact pm_cmp_in _ _ | exact pm_b8_in _ | (unfold pm_inI; split <;> omega)) (by first | (unfold pm_inI; omega) | exact pm_and_in _ _ | exact pm_shr_in _ _ | exact pm_or_in _ _ | exact pm_xor_in _ _ | exact pm_shl_in _ _ | exact pm_cmp_in _ _ | exact pm_b8_in _ | (unfold pm_inI; split <;> omega)) (fun h6 => ?_) (fun h6 => ?_)
          · replace h6 : c ≤ ((2 ^ tC T - 1 : Nat) : Int) := h6
            refine g_aload_n lk_125_32 rfl ?_
            refine g_getfield lk_125_33 rfl (lay.on (by decide) rfl) (v := ((24 : Nat) : Int)) (lay.rf rfl) ?_
            refine g_iload_n lk_125_36 rfl ?_
            refine g_iload_n lk_125_37 rfl ?_
            exfalso; omega
          · replace h6 : ¬ (c ≤ ((2 ^ tC T - 1 : Nat) : Int)) := h6
            refine g_iconst lk_125_30 ?_
            refine g_ireturn lk_125_31 (fun h => absurd h (by decide)) ?_
            exact ⟨Or.inl ⟨hin, rfl⟩, rfl⟩
set_option maxHeartbeats 8000000 in
theorem c_Mo_area {d mc ms : Nat} {M : pm_M} (lay : Lay M) {T : Tab} (hT : TabOK T) (hM0 : MoAt M T) {r c w : Int} (hr : pm_inI r) (hc : pm_inI c) (hw : pm_inI w) :
    pm_E (d + 3) 207 [(2, ((116 : Nat) : Int)), (0, r), (0, c), (0, w)] M mc ms (fun ρ M' => ((¬ inArea T r c ∧ ρ = some (0, -1)) ∨ (inArea T r c ∧ ρ = some (0, sArea T r.toNat c.toNat w))) ∧ Lay M' ∧ M' = Mu [(116, pm_upd (pm_ct M 116) 0 0)] M) := by
  obtain ⟨N, hN⟩ : ∃ N, N = Mu [(116, pm_upd (pm_ct M 116) 0 0)] M := ⟨_, rfl⟩
  have hM : MoAt (Mu [(116, pm_upd (pm_ct M 116) 0 0)] M) T := hM0
  have layN : Lay (Mu [(116, pm_upd (pm_ct M 116) 0 0)] M) := lay.muF (l := []) (a := 116) (k := 0) (z := 0) rfl rfl
  have hR := tR_64 hT
  have hC := tC_64 hT
  have hr' := hr
  have hc' := hc
  unfold pm_inI at hr' hc'
  by_cases hin : inArea T r c
  · obtain ⟨⟨i1, i2⟩, i3, i4⟩ := id hin
    obtain ⟨rs, rfl⟩ := Int.eq_ofNat_of_zero_le (show 0 ≤ r by omega)
    obtain ⟨cs, rfl⟩ := Int.eq_ofNat_of_zero_le (show 0 ≤ c by omega)
    have hv := vIn_lt T rs cs
    have h1R : 1 ≤ 2 ^ tR T := Nat.one_le_two_pow
    have h1C : 1 ≤ 2 ^ tC T := Nat.one_le_two_pow
    have p0 : pop (vIn T rs cs) = 0 ↔ vIn T rs cs = 0 := pop0_tab ⟨_, hv⟩
    have pl : pop (vIn T rs cs) < 1024 := by rw [pop_sm]; exact Nat.lt_of_le_of_lt (sm_le (g := fun _ => 1) (fun i _ => by unfold bt; split <;> omega)) (by decide)
    show Wp (d + 3) 207 0 [(2, ((116 : Nat) : Int)), (0, (rs : Int)), (0, (cs : Int)), (0, w), (9, 0), (9, 0)] [] M mc ms _
    have fin : ∀ z : Int, z = sArea T rs cs w → ((¬ inArea T (rs : Int) (cs : Int) ∧ some ((0 : Nat), z) = some (0, -1)) ∨ (inArea T (rs : Int) (cs : Int) ∧ some ((0 : Nat), z) = some (0, sArea T (rs : Int).toNat (cs : Int).toNat w))) ∧ Lay (Mu [(116, pm_upd (pm_ct M 116) 0 0)] M) ∧ Mu [(116, pm_upd (pm_ct M 116) 0 0)] M = Mu [(116, pm_upd (pm_ct M 116) 0 0)] M := fun z hz => ⟨Or.inr ⟨hin, by rw [hz]; rfl⟩, layN, rfl⟩
    refine g_aload_n lk_207_0 rfl ?_
    refine g_iconst lk_207_1 ?_
    have lay1 : Lay (Mu [(116, pm_upd (pm_ct M 116) 0 0)] M) := lay.muF (l := []) (a := 116) (k := 0) (z := 0) rfl rfl
    refine m_putfield (u := []) (u' := [(116, pm_upd (pm_ct M 116) 0 0)]) (M := M) lk_207_2 rfl (lay.on (by decide) rfl) (fun h => absurd h (by decide)) rfl ?_
    refine g_iload_n lk_207_5 rfl ?_
    refine g_iconst lk_207_6 ?_
    refine g_aload_n lk_207_7 rfl ?_
    refine g_virtual (p := 116) (Qc := _) lk_207_8 rfl (Nat.le_of_ble_eq_true rfl) rfl rfl (lay1.on (by decide) rfl) (Nat.le_of_ble_eq_true rfl) (Nat.le_of_ble_eq_true rfl) (Nat.zero_le _) (Nat.zero_le _) (c_Mo_allRows lay1 hT hM) ?_
    rintro _ N2 ⟨rfl, hN2⟩
    rw [hN2]
    show Wp _ 207 11 [(2, ((116 : Nat) : Int)), (0, (rs : Int)), (0, (cs : Int)), (0, w), (9, 0), (9, 0)] [(0, ((2 ^ tR T - 1 : Nat) : Int)), (0, 1), (0, (rs : Int))] (Mu [(116, pm_upd (pm_ct M 116) 0 0)] M) _ _ _
    refine g_static (Qc := _) lk_207_11 (by decide) rfl (Nat.le_of_ble_eq_true rfl) rfl rfl (Nat.le_of_ble_eq_true rfl) (Nat.le_of_ble_eq_true rfl) (Nat.zero_le _) (Nat.zero_le _) (c_Mo_in (by assumption) (by unfold pm_inI; omega) (by unfold pm_inI; omega)) ?_
    rintro _ N3 ⟨rfl, hN3⟩
    rw [hN3]
    show Wp _ 207 14 [(2, ((116 : Nat) : Int)), (0, (rs : Int)), (0, (cs : Int)), (0, w), (9, 0), (9, 0)] [(0, (if 1 ≤ (rs : Int) ∧ (rs : Int) ≤ ((2 ^ tR T - 1 : Nat) : Int) then (1 : Int) else 0))] (Mu [(116, pm_upd (pm_ct M 116) 0 0)] M) _ _ _
    refine g_if (t := 29) lk_207_14 rfl (by first | assumption | (unfold pm_inI; omega) | (unfold pm_inI; split <;> omega)) (fun h4 => ?_) (fun h4 => ?_)
    · replace h4 : (if 1 ≤ (rs : Int) ∧ (rs : Int) ≤ ((2 ^ tR T - 1 : Nat) : Int) then (1 : Int) else 0) = 0 := h4
      refine g_iconst lk_207_29 ?_
      refine g_ireturn lk_207_30 (fun h => absurd h (by decide)) ?_
      exfalso; rw [if_pos (by omega)] at h4; omega
    · replace h4 : ¬ ((if 1 ≤ (rs : Int) ∧ (rs : Int) ≤ ((2 ^ tR T - 1 : Nat) : Int) then (1 : Int) else 0) = 0) := h4
      refine g_iload_n lk_207_17 rfl ?_
      refine g_iconst lk_207_18 ?_
      refine g_aload_n lk_207_19 rfl ?_
      refine g_virtual (p := 116) (Qc := _) lk_207_20 rfl (Nat.le_of_ble_eq_true rfl) rfl rfl (lay1.on (by decide) rfl) (Nat.le_of_ble_eq_true rfl) (Nat.le_of_ble_eq_true rfl) (Nat.zero_le _) (Nat.zero_le _) (c_Mo_allColumns lay1 hT hM) ?_
      rintro _ N5 ⟨rfl, hN5⟩
      rw [hN5]
      show Wp _ 207 23 [(2, ((116 : Nat) : Int)), (0, (rs : Int)), (0, (cs : Int)), (0, w), (9, 0), (9, 0)] [(0, ((2 ^ tC T - 1 : Nat) : Int)), (0, 1), (0, (cs : Int))] (Mu [(116, pm_upd (pm_ct M 116) 0 0)] M) _ _ _
      refine g_static (Qc := _) lk_207_23 (by decide) rfl (Nat.le_of_ble_eq_true rfl) rfl rfl (Nat.le_of_ble_eq_true rfl) (Nat.le_of_ble_eq_true rfl) (Nat.zero_le _) (Nat.zero_le _) (c_Mo_in (by assumption) (by unfold pm_inI; omega) (by unfold pm_inI; omega)) ?_
      rintro _ N6 ⟨rfl, hN6⟩
      rw [hN6]
      show Wp _ 207 26 [(2, ((116 : Nat) : Int)), (0, (rs : Int)), (0, (cs : Int)), (0, w), (9, 0), (9, 0)] [(0, (if 1 ≤ (cs : Int) ∧ (cs : Int) ≤ ((2 ^ tC T - 1 : Nat) : Int) then (1 : Int) else 0))] (Mu [(116, pm_upd (pm_ct M 116) 0 0)] M) _ _ _
      refine g_if (t := 31) lk_207_26 rfl (by first | assumption | (unfold pm_inI; omega) | (unfold pm_inI; split <;> omega)) (fun h7 => ?_) (fun h7 => ?_)
      · replace h7 : ¬ (if 1 ≤ (cs : Int) ∧ (cs : Int) ≤ ((2 ^ tC T - 1 : Nat) : Int) then (1 : Int) else 0) = 0 := h7
        refine g_aload_n lk_207_31 rfl ?_
        refine g_iload_n lk_207_32 rfl ?_
        refine g_iload_n lk_207_33 rfl ?_
        refine g_virtual (p := 116) (Qc := _) lk_207_34 rfl (Nat.le_of_ble_eq_true rfl) rfl rfl (lay1.on (by decide) rfl) (Nat.le_of_ble_eq_true rfl) (Nat.le_of_ble_eq_true rfl) (Nat.zero_le _) (Nat.zero_le _) (c_Mo_valuesIn lay1 hT hM (by omega) (by omega)) ?_
        rintro _ N8 ⟨rfl, hN8⟩
        rw [hN8]
        show Wp _ 207 37 [(2, ((116 : Nat) : Int)), (0, (rs : Int)), (0, (cs : Int)), (0, w), (9, 0), (9, 0)] [(0, ((vIn T rs cs : Nat) : Int))] (Mu [(116, pm_upd (pm_ct M 116) 0 0)] M) _ _ _
        refine g_istore (ls' := [(2, ((116 : Nat) : Int)), (0, (rs : Int)), (0, (cs : Int)), (0, w), (0, ((vIn T rs cs : Nat) : Int)), (9, 0)]) lk_207_37 rfl rfl ?_
        refine g_iload lk_207_39 rfl ?_
        refine g_static (Qc := _) lk_207_41 (by decide) rfl (Nat.le_of_ble_eq_true rfl) rfl rfl (Nat.le_of_ble_eq_true rfl) (Nat.le_of_ble_eq_true rfl) (Nat.zero_le _) (Nat.zero_le _) (c_Mo_bits (by omega)) ?_
        rintro _ N9 ⟨rfl, hN9⟩
        rw [hN9]
        show Wp _ 207 44 [(2, ((116 : Nat) : Int)), (0, (rs : Int)), (0, (cs : Int)), (0, w), (0, ((vIn T rs cs : Nat) : Int)), (9, 0)] [(0, (pop (vIn T rs cs) : Int))] (Mu [(116, pm_upd (pm_ct M 116) 0 0)] M) _ _ _
        refine g_istore (ls' := [(2, ((116 : Nat) : Int)), (0, (rs : Int)), (0, (cs : Int)), (0, w), (0, ((vIn T rs cs : Nat) : Int)), (0, (pop (vIn T rs cs) : Int))]) lk_207_44 rfl rfl ?_
        refine g_iload_n lk_207_46 rfl ?_
        refine g_tsw lk_207_47 (by first | assumption | (unfold pm_inI; omega) | (unfold pm_inI; split <;> omega)) (And.intro (fun h10 => ?_) (fun h10 => (And.intro (fun h11 => ?_) (fun h11 => (And.intro (fun h12 => ?_) (fun h12 => (And.intro (fun h13 => ?_) (fun h13 => ?_))))))))
        · replace h10 : w = 0 := h10
          show Wp _ 207 76 [(2, ((116 : Nat) : Int)), (0, (rs : Int)), (0, (cs : Int)), (0, w), (0, ((vIn T rs cs : Nat) : Int)), (0, (pop (vIn T rs cs) : Int))] [] (Mu [(116, pm_upd (pm_ct M 116) 0 0)] M) _ _ _
          refine g_iload lk_207_76 rfl ?_
          refine g_iconst lk_207_78 ?_
          refine g_icmp (t := 86) lk_207_79 rfl (by first | assumption | (unfold pm_inI; omega) | (unfold pm_inI; split <;> omega)) (by first | assumption | (unfold pm_inI; omega) | (unfold pm_inI; split <;> omega)) (fun h15 => ?_) (fun h15 => ?_)
          · replace h15 : 2 ≤ (pop (vIn T rs cs) : Int) := h15
            refine g_iconst lk_207_86 ?_
            refine g_ireturn lk_207_87 (fun h => absurd h (by decide)) ?_
            refine fin _ ?_
            unfold sArea; simp_all <;> omega
          · replace h15 : ¬ (2 ≤ (pop (vIn T rs cs) : Int)) := h15
            refine g_iconst lk_207_82 ?_
            refine g_goto (t := 87) lk_207_83 rfl ?_
            refine g_ireturn lk_207_87 (fun h => absurd h (by decide)) ?_
            refine fin _ ?_
            unfold sArea; simp_all <;> omega
        · replace h11 : w = 1 := h11
          show Wp _ 207 88 [(2, ((116 : Nat) : Int)), (0, (rs : Int)), (0, (cs : Int)), (0, w), (0, ((vIn T rs cs : Nat) : Int)), (0, (pop (vIn T rs cs) : Int))] [] (Mu [(116, pm_upd (pm_ct M 116) 0 0)] M) _ _ _
          refine g_iload lk_207_88 rfl ?_
          refine g_iconst lk_207_90 ?_
          refine g_icmp (t := 98) lk_207_91 rfl (by first | assumption | (unfold pm_inI; omega) | (unfold pm_inI; split <;> omega)) (by first | assumption | (unfold pm_inI; omega) | (unfold pm_inI; split <;> omega)) (fun h16 => ?_) (fun h16 => ?_)
          · replace h16 : (pop (vIn T rs cs) : Int) ≤ 1 := h16
            refine g_iload lk_207_98 rfl ?_
            refine g_if (t := 108) lk_207_100 rfl (by first | assumption | (unfold pm_inI; omega) | (unfold pm_inI; split <;> omega)) (fun h17 => ?_) (fun h17 => ?_)
            · replace h17 : ¬ (pop (vIn T rs cs) : Int) = 0 := h17
              refine g_iload lk_207_108 rfl ?_
              refine g_static (Qc := _) lk_207_110 (by decide) rfl (Nat.le_of_ble_eq_true rfl) rfl rfl (Nat.le_of_ble_eq_true rfl) (Nat.le_of_ble_eq_true rfl) (Nat.zero_le _) (Nat.zero_le _) (c_Mo_firstOf hv (by omega)) ?_
              rintro _ N18 ⟨rfl, hN18⟩
              rw [hN18]
              show Wp _ 207 113 [(2, ((116 : Nat) : Int)), (0, (rs : Int)), (0, (cs : Int)), (0, w), (0, ((vIn T rs cs : Nat) : Int)), (0, (pop (vIn T rs cs) : Int))] [(0, (fstb (vIn T rs cs) : Int))] (Mu [(116, pm_upd (pm_ct M 116) 0 0)] M) _ _ _
              refine g_ireturn lk_207_113 (fun h => absurd h (by decide)) ?_
              refine fin _ ?_
              unfold sArea; simp_all <;> omega
            · replace h17 : ¬ (¬ (pop (vIn T rs cs) : Int) = 0) := h17
              refine g_bipush lk_207_103 ?_
              refine g_goto (t := 113) lk_207_105 rfl ?_
              refine g_ireturn lk_207_113 (fun h => absurd h (by decide)) ?_
              refine fin _ ?_
              unfold sArea; simp_all <;> omega
          · replace h16 : ¬ ((pop (vIn T rs cs) : Int) ≤ 1) := h16
            refine g_iconst lk_207_94 ?_
            refine g_goto (t := 113) lk_207_95 rfl ?_
            refine g_ireturn lk_207_113 (fun h => absurd h (by decide)) ?_
            refine fin _ ?_
            unfold sArea; simp_all <;> omega
        · replace h12 : w = 2 := h12
          show Wp _ 207 114 [(2, ((116 : Nat) : Int)), (0, (rs : Int)), (0, (cs : Int)), (0, w), (0, ((vIn T rs cs : Nat) : Int)), (0, (pop (vIn T rs cs) : Int))] [] (Mu [(116, pm_upd (pm_ct M 116) 0 0)] M) _ _ _
          refine g_aload_n lk_207_114 rfl ?_
          refine g_iload_n lk_207_115 rfl ?_
          refine g_iload_n lk_207_116 rfl ?_
          refine g_virtual (p := 116) (Qc := _) lk_207_117 rfl (Nat.le_of_ble_eq_true rfl) rfl rfl (lay1.on (by decide) rfl) (Nat.le_of_ble_eq_true rfl) (Nat.le_of_ble_eq_true rfl) (Nat.zero_le _) (Nat.zero_le _) (c_Mo_askedIn lay1 hT hM (by omega) (by omega)) ?_
          rintro _ N19 ⟨rfl, hN19⟩
          rw [hN19]
          show Wp _ 207 120 [(2, ((116 : Nat) : Int)), (0, (rs : Int)), (0, (cs : Int)), (0, w), (0, ((vIn T rs cs : Nat) : Int)), (0, (pop (vIn T rs cs) : Int))] [(0, ((pop rs : Int) * (pop cs : Int) - (cIn T rs cs 10 : Int)))] (Mu [(116, pm_upd (pm_ct M 116) 0 0)] M) _ _ _
          refine g_ireturn lk_207_120 (fun h => absurd h (by decide)) ?_
          refine fin _ ?_
          rw [asked_eq hT (by omega) (by omega)]
          unfold sArea; simp_all <;> omega
        · replace h13 : w = 3 := h13
          show Wp _ 207 121 [(2, ((116 : Nat) : Int)), (0, (rs : Int)), (0, (cs : Int)), (0, w), (0, ((vIn T rs cs : Nat) : Int)), (0, (pop (vIn T rs cs) : Int))] [] (Mu [(116, pm_upd (pm_ct M 116) 0 0)] M) _ _ _
          refine g_iload lk_207_121 rfl ?_
          refine g_ireturn lk_207_123 (fun h => absurd h (by decide)) ?_
          refine fin _ ?_
          unfold sArea; simp_all <;> omega
        · show Wp _ 207 124 [(2, ((116 : Nat) : Int)), (0, (rs : Int)), (0, (cs : Int)), (0, w), (0, ((vIn T rs cs : Nat) : Int)), (0, (pop (vIn T rs cs) : Int))] [] (Mu [(116, pm_upd (pm_ct M 116) 0 0)] M) _ _ _
          replace h10 : ¬ w = 0 := h10
          replace h11 : ¬ w = 1 := h11
          replace h12 : ¬ w = 2 := h12
          replace h13 : ¬ w = 3 := h13
          refine g_iconst lk_207_124 ?_
          refine g_ireturn lk_207_125 (fun h => absurd h (by decide)) ?_
          refine fin _ ?_
          unfold sArea; simp_all <;> omega
      · replace h7 : ¬ (¬ (if 1 ≤ (cs : Int) ∧ (cs : Int) ≤ ((2 ^ tC T - 1 : Nat) : Int) then (1 : Int) else 0) = 0) := h7
        refine g_iconst lk_207_29 ?_
        refine g_ireturn lk_207_30 (fun h => absurd h (by decide)) ?_
        exfalso; rw [if_pos (by omega)] at h7; omega
  · have hn : ¬ ((1 ≤ r ∧ r ≤ ((2 ^ tR T - 1 : Nat) : Int)) ∧ (1 ≤ c ∧ c ≤ ((2 ^ tC T - 1 : Nat) : Int))) := hin
    show Wp (d + 3) 207 0 [(2, ((116 : Nat) : Int)), (0, r), (0, c), (0, w), (9, 0), (9, 0)] [] M mc ms _
    refine g_aload_n lk_207_0 rfl ?_
    refine g_iconst lk_207_1 ?_
    have lay1 : Lay (Mu [(116, pm_upd (pm_ct M 116) 0 0)] M) := lay.muF (l := []) (a := 116) (k := 0) (z := 0) rfl rfl
    refine m_putfield (u := []) (u' := [(116, pm_upd (pm_ct M 116) 0 0)]) (M := M) lk_207_2 rfl (lay.on (by decide) rfl) (fun h => absurd h (by decide)) rfl ?_
    refine g_iload_n lk_207_5 rfl ?_
    refine g_iconst lk_207_6 ?_
    refine g_aload_n lk_207_7 rfl ?_
    refine g_virtual (p := 116) (Qc := _) lk_207_8 rfl (Nat.le_of_ble_eq_true rfl) rfl rfl (lay1.on (by decide) rfl) (Nat.le_of_ble_eq_true rfl) (Nat.le_of_ble_eq_true rfl) (Nat.zero_le _) (Nat.zero_le _) (c_Mo_allRows lay1 hT hM) ?_
    rintro _ N2 ⟨rfl, hN2⟩
    rw [hN2]
    show Wp _ 207 11 [(2, ((116 : Nat) : Int)), (0, r), (0, c), (0, w), (9, 0), (9, 0)] [(0, ((2 ^ tR T - 1 : Nat) : Int)), (0, 1), (0, r)] (Mu [(116, pm_upd (pm_ct M 116) 0 0)] M) _ _ _
    refine g_static (Qc := _) lk_207_11 (by decide) rfl (Nat.le_of_ble_eq_true rfl) rfl rfl (Nat.le_of_ble_eq_true rfl) (Nat.le_of_ble_eq_true rfl) (Nat.zero_le _) (Nat.zero_le _) (c_Mo_in (by assumption) (by unfold pm_inI; omega) (by unfold pm_inI; omega)) ?_
    rintro _ N3 ⟨rfl, hN3⟩
    rw [hN3]
    show Wp _ 207 14 [(2, ((116 : Nat) : Int)), (0, r), (0, c), (0, w), (9, 0), (9, 0)] [(0, (if 1 ≤ r ∧ r ≤ ((2 ^ tR T - 1 : Nat) : Int) then (1 : Int) else 0))] (Mu [(116, pm_upd (pm_ct M 116) 0 0)] M) _ _ _
    refine g_if (t := 29) lk_207_14 rfl (by first | (unfold pm_inI; omega) | exact pm_and_in _ _ | exact pm_shr_in _ _ | exact pm_or_in _ _ | exact pm_xor_in _ _ | exact pm_shl_in _ _ | exact pm_cmp_in _ _ | exact pm_b8_in _ | (unfold pm_inI; split <;> omega)) (fun h4 => ?_) (fun h4 => ?_)
    · replace h4 : (if 1 ≤ r ∧ r ≤ ((2 ^ tR T - 1 : Nat) : Int) then (1 : Int) else 0) = 0 := h4
      refine g_iconst lk_207_29 ?_
      refine g_ireturn lk_207_30 (fun h => absurd h (by decide)) ?_
      exact ⟨Or.inl ⟨hin, rfl⟩, layN, rfl⟩
    · replace h4 : ¬ ((if 1 ≤ r ∧ r ≤ ((2 ^ tR T - 1 : Nat) : Int) then (1 : Int) else 0) = 0) := h4
      refine g_iload_n lk_207_17 rfl ?_
      refine g_iconst lk_207_18 ?_
      refine g_aload_n lk_207_19 rfl ?_
      refine g_virtual (p := 116) (Qc := _) lk_207_20 rfl (Nat.le_of_ble_eq_true rfl) rfl rfl (lay1.on (by decide) rfl) (Nat.le_of_ble_eq_true rfl) (Nat.le_of_ble_eq_true rfl) (Nat.zero_le _) (Nat.zero_le _) (c_Mo_allColumns lay1 hT hM) ?_
      rintro _ N5 ⟨rfl, hN5⟩
      rw [hN5]
      show Wp _ 207 23 [(2, ((116 : Nat) : Int)), (0, r), (0, c), (0, w), (9, 0), (9, 0)] [(0, ((2 ^ tC T - 1 : Nat) : Int)), (0, 1), (0, c)] (Mu [(116, pm_upd (pm_ct M 116) 0 0)] M) _ _ _
      refine g_static (Qc := _) lk_207_23 (by decide) rfl (Nat.le_of_ble_eq_true rfl) rfl rfl (Nat.le_of_ble_eq_true rfl) (Nat.le_of_ble_eq_true rfl) (Nat.zero_le _) (Nat.zero_le _) (c_Mo_in (by assumption) (by unfold pm_inI; omega) (by unfold pm_inI; omega)) ?_
      rintro _ N6 ⟨rfl, hN6⟩
      rw [hN6]
      show Wp _ 207 26 [(2, ((116 : Nat) : Int)), (0, r), (0, c), (0, w), (9, 0), (9, 0)] [(0, (if 1 ≤ c ∧ c ≤ ((2 ^ tC T - 1 : Nat) : Int) then (1 : Int) else 0))] (Mu [(116, pm_upd (pm_ct M 116) 0 0)] M) _ _ _
      refine g_if (t := 31) lk_207_26 rfl (by first | (unfold pm_inI; omega) | exact pm_and_in _ _ | exact pm_shr_in _ _ | exact pm_or_in _ _ | exact pm_xor_in _ _ | exact pm_shl_in _ _ | exact pm_cmp_in _ _ | exact pm_b8_in _ | (unfold pm_inI; split <;> omega)) (fun h7 => ?_) (fun h7 => ?_)
      · replace h7 : ¬ (if 1 ≤ c ∧ c ≤ ((2 ^ tC T - 1 : Nat) : Int) then (1 : Int) else 0) = 0 := h7
        refine g_aload_n lk_207_31 rfl ?_
        refine g_iload_n lk_207_32 rfl ?_
        refine g_iload_n lk_207_33 rfl ?_
        exfalso
        split at h7 <;> split at h4 <;> omega
      · replace h7 : ¬ (¬ (if 1 ≤ c ∧ c ≤ ((2 ^ tC T - 1 : Nat) : Int) then (1 : Int) else 0) = 0) := h7
        refine g_iconst lk_207_29 ?_
        refine g_ireturn lk_207_30 (fun h => absurd h (by decide)) ?_
        exact ⟨Or.inl ⟨hin, rfl⟩, layN, rfl⟩
