/-! ===== a whole text, by the class ===== -/
/-- what reading a text may change -/
def RaF (M N : pm_M) : Prop := Fr [2, 4, 5, 7, 8, 9, 10, 11, 12, 13, 14, 15, 16, 17, 18, 19, 20, 21, 22, 23] M N ∧ ∀ k, k ∉ [5, 6, 7, 8, 9, 10, 11, 12, 13] → pm_ct N 2 k = pm_ct M 2 k
theorem RaF.refl (M : pm_M) : RaF M M := ⟨Fr.refl _ _, fun _ _ => rfl⟩
theorem RaF.trans {M N K : pm_M} (h : RaF M N) (k : RaF N K) : RaF M K := ⟨h.1.trans k.1, fun j hj => (k.2 j hj).trans (h.2 j hj)⟩
theorem TeF.ra {M N : pm_M} (h : TeF M N) : RaF M N := ⟨h.1.mono (fun a q => by simp at q ⊢; omega), fun k hk => h.2 k (fun q => hk (by simp at q ⊢; omega))⟩
theorem CoF.ra {M N : pm_M} (h : CoF M N) : RaF M N := ⟨h.1.mono (fun a q => by simp at q ⊢; omega), fun k hk => h.2 k (fun q => hk (by simp at q ⊢; omega))⟩
theorem RaF.tc {n : Nat} {ch : Nat → Nat} {M N : pm_M} (h : RaF M N) (hM : TcX M n ch) : TcX N n ch := by
  unfold TcX at hM ⊢
  rw [h.2 4 (by decide), h.1.ct (a := 3) (by decide)]; exact hM
theorem TeF.tb {M N : pm_M} {T : Tab} (h : TeF M N) (hT : TbAt M 4 T) : TbAt N 4 T := by
  unfold TbAt at hT ⊢
  rw [h.1.ct (a := 4) (by decide), h.1.ct (a := 4 + 1) (by decide)]; exact hT
theorem CoF.trs {M N : pm_M} {Ts : List Nt} (h : TrsX M Ts) (k : CoF M N) : TrsX N Ts := by
  refine ⟨by rw [k.2 5 (by decide)]; exact h.1, fun i y hy => ?_⟩
  obtain ⟨a1, a2, a3, a4⟩ := h.2 i y hy
  refine ⟨by rw [k.1.ct (by decide)]; exact a1, a2, by rw [k.1.ct (by simp <;> omega)]; exact a3, ?_⟩
  intro j z hz
  rw [k.1.ct (a := 8 + 4 * i + 1) (by simp <;> omega), k.1.ct (a := 8 + 4 * i + 2) (by simp <;> omega), k.1.ct (a := 8 + 4 * i + 3) (by simp <;> omega)]
  exact a4 j z hz
set_option maxHeartbeats 4000000 in
theorem c_Reader_lines {d mc ms n : Nat} {ch : Nat → Nat} {M : pm_M} (hM : TcX M n ch) (Q : pm_Q) (v2 : pm_V) (r : Sum (Nat × Nat) (Tab × List Nt))
    (q0 : ∀ e K, r = .inl e → Lay K → RaF M K → FtX K e → Q (some (0, 0)) K)
    (q1 : ∀ T Ts K, r = .inr (T, Ts) → Lay K → RaF M K → Sv M K → TbAt K 4 T → TrsX K Ts → Q (some (0, 1)) K) :
    ∀ (f i w : Nat) (K : pm_M) (T : Tab) (Ts : List Nt) (t : Tok) (v2 : pm_V), i + f = 500 → Lay K → RaF M K → Sv M K → TkX K ch t → TkOK ch n t → TbAt K 4 T → tR T ≤ 6 → tC T ≤ 6 → TrsX K Ts → Ts.length ≤ 4 → pm_ct K 2 8 = (w : Int) → w ≤ 1 → r = pLs ch n f T w Ts t → Wp (d + 14) 57 47 [(2, ((2 : Nat) : Int)), (0, (i : Int)), v2] [] K mc ms Q := by
  have n5 := hM.1
  intro f
  induction f with
  | zero =>
    intro i w K T Ts t v2 hi lay fK sK tk kk tb r6 c6 ts l4 f8 w1 ep
    replace ep : r = .inr (T, Ts) := ep
    refine g_iload_n lk_57_47 rfl ?_
    refine g_sipush lk_57_48 ?_
    refine g_icmp (t := 113) lk_57_51 rfl (by first | (unfold pm_inI; omega) | exact pm_and_in _ _ | exact pm_shr_in _ _ | exact pm_or_in _ _ | exact pm_xor_in _ _ | exact pm_shl_in _ _ | exact pm_cmp_in _ _ | exact pm_b8_in _ | (unfold pm_inI; split <;> omega)) (by first | (unfold pm_inI; omega) | exact pm_and_in _ _ | exact pm_shr_in _ _ | exact pm_or_in _ _ | exact pm_xor_in _ _ | exact pm_shl_in _ _ | exact pm_cmp_in _ _ | exact pm_b8_in _ | (unfold pm_inI; split <;> omega)) (fun h1 => ?_) (fun h1 => ?_)
    · replace h1 : 500 ≤ (i : Int) := h1
      refine g_iconst lk_57_113 ?_
      refine g_ireturn lk_57_114 (fun _ => by omega) ?_
      exact q1 T Ts K ep lay fK sK tb ts
    · replace h1 : ¬ (500 ≤ (i : Int)) := h1
      omega
  | succ f ih =>
    intro i w K T Ts t v2 hi lay fK sK tk kk tb r6 c6 ts l4 f8 w1 ep
    have f10 := tk.1
    have t4 := kk.1
    by_cases e0 : t.1 = 0
    · rw [pLs_end e0] at ep
      have f10' : pm_ct K 2 10 = 0 := by rw [f10, e0]; rfl
      clear ih
      refine g_iload_n lk_57_47 rfl ?_
      refine g_sipush lk_57_48 ?_
      refine g_icmp (t := 113) lk_57_51 rfl (by first | (unfold pm_inI; omega) | exact pm_and_in _ _ | exact pm_shr_in _ _ | exact pm_or_in _ _ | exact pm_xor_in _ _ | exact pm_shl_in _ _ | exact pm_cmp_in _ _ | exact pm_b8_in _ | (unfold pm_inI; split <;> omega)) (by first | (unfold pm_inI; omega) | exact pm_and_in _ _ | exact pm_shr_in _ _ | exact pm_or_in _ _ | exact pm_xor_in _ _ | exact pm_shl_in _ _ | exact pm_cmp_in _ _ | exact pm_b8_in _ | (unfold pm_inI; split <;> omega)) (fun h1 => ?_) (fun h1 => ?_)
      · replace h1 : 500 ≤ (i : Int) := h1
        refine g_iconst lk_57_113 ?_
        refine g_ireturn lk_57_114 (fun _ => by omega) ?_
        exact q1 T Ts K ep lay fK sK tb ts
      · replace h1 : ¬ (500 ≤ (i : Int)) := h1
        refine g_aload_n lk_57_54 rfl ?_
        refine m_getfield (u := []) (M := K) lk_57_55 rfl (lay.on (by decide) rfl) (v := 0) f10' ?_
        refine g_if (t := 113) lk_57_58 rfl (by first | (unfold pm_inI; omega) | exact pm_and_in _ _ | exact pm_shr_in _ _ | exact pm_or_in _ _ | exact pm_xor_in _ _ | exact pm_shl_in _ _ | exact pm_cmp_in _ _ | exact pm_b8_in _ | (unfold pm_inI; split <;> omega)) (fun _ => ?_) (fun h => absurd (show (0 : Int) = (0 : Int) by omega) h)
        refine g_iconst lk_57_113 ?_
        refine g_ireturn lk_57_114 (fun _ => by omega) ?_
        exact q1 T Ts K ep lay fK sK tb ts
    · by_cases a : t.1 = 1 ∧ twd ch t = wTree
      · have f10' : pm_ct K 2 10 = 1 := by rw [f10, a.1]; rfl
        have f13' : pm_ct K 2 13 = 406922 := by
          have : pm_ct K 2 13 = ((nr 27 (twd ch t) : Nat) : Int) := tk.2.2.2.2 a.1
          rw [this]
          exact (w27_con (kk.lt a.1)).2.2.2.1.mpr a.2
        have rt := c_Reader_readTree (d := d) (mc := 0) (ms := 0) lay r6 c6 (fK.tc hM) tk kk tb.1 tb.2.1 ts l4
        cases hp : pTree ch n (tR T) (tC T) Ts t with
        | inl e =>
          rw [pLs_t0 e0 a hp] at ep
          rw [hp] at rt
          clear ih
          refine g_iload_n lk_57_47 rfl ?_
          refine g_sipush lk_57_48 ?_
          refine g_icmp (t := 113) lk_57_51 rfl (by first | (unfold pm_inI; omega) | exact pm_and_in _ _ | exact pm_shr_in _ _ | exact pm_or_in _ _ | exact pm_xor_in _ _ | exact pm_shl_in _ _ | exact pm_cmp_in _ _ | exact pm_b8_in _ | (unfold pm_inI; split <;> omega)) (by first | (unfold pm_inI; omega) | exact pm_and_in _ _ | exact pm_shr_in _ _ | exact pm_or_in _ _ | exact pm_xor_in _ _ | exact pm_shl_in _ _ | exact pm_cmp_in _ _ | exact pm_b8_in _ | (unfold pm_inI; split <;> omega)) (fun h1 => ?_) (fun h1 => ?_)
          · replace h1 : 500 ≤ (i : Int) := h1
            omega
          · replace h1 : ¬ (500 ≤ (i : Int)) := h1
            refine g_aload_n lk_57_54 rfl ?_
            refine m_getfield (u := []) (M := K) lk_57_55 rfl (lay.on (by decide) rfl) (v := 1) f10' ?_
            refine g_if (t := 113) lk_57_58 rfl (by first | (unfold pm_inI; omega) | exact pm_and_in _ _ | exact pm_shr_in _ _ | exact pm_or_in _ _ | exact pm_xor_in _ _ | exact pm_shl_in _ _ | exact pm_cmp_in _ _ | exact pm_b8_in _ | (unfold pm_inI; split <;> omega)) (fun h => absurd h (show ¬ ((1 : Int) = (0 : Int)) by omega)) (fun _ => ?_)
            refine g_aload_n lk_57_61 rfl ?_
            refine m_getfield (u := []) (M := K) lk_57_62 rfl (lay.on (by decide) rfl) (v := 1) f10' ?_
            refine g_iconst lk_57_65 ?_
            refine g_icmp (t := 82) lk_57_66 rfl (by first | (unfold pm_inI; omega) | exact pm_and_in _ _ | exact pm_shr_in _ _ | exact pm_or_in _ _ | exact pm_xor_in _ _ | exact pm_shl_in _ _ | exact pm_cmp_in _ _ | exact pm_b8_in _ | (unfold pm_inI; split <;> omega)) (by first | (unfold pm_inI; omega) | exact pm_and_in _ _ | exact pm_shr_in _ _ | exact pm_or_in _ _ | exact pm_xor_in _ _ | exact pm_shl_in _ _ | exact pm_cmp_in _ _ | exact pm_b8_in _ | (unfold pm_inI; split <;> omega)) (fun h => absurd h (show ¬ (¬ (1 : Int) = (1 : Int)) by omega)) (fun _ => ?_)
            refine g_aload_n lk_57_69 rfl ?_
            refine m_getfield (u := []) (M := K) lk_57_70 rfl (lay.on (by decide) rfl) (v := 406922) f13' ?_
            refine g_ldc lk_57_73 ?_
            refine g_icmp (t := 82) lk_57_75 rfl (by first | (unfold pm_inI; omega) | exact pm_and_in _ _ | exact pm_shr_in _ _ | exact pm_or_in _ _ | exact pm_xor_in _ _ | exact pm_shl_in _ _ | exact pm_cmp_in _ _ | exact pm_b8_in _ | (unfold pm_inI; split <;> omega)) (by first | (unfold pm_inI; omega) | exact pm_and_in _ _ | exact pm_shr_in _ _ | exact pm_or_in _ _ | exact pm_xor_in _ _ | exact pm_shl_in _ _ | exact pm_cmp_in _ _ | exact pm_b8_in _ | (unfold pm_inI; split <;> omega)) (fun h => absurd h (show ¬ (¬ (406922 : Int) = (406922 : Int)) by omega)) (fun _ => ?_)
            refine g_iconst lk_57_78 ?_
            refine g_goto (t := 83) lk_57_79 rfl ?_
            refine g_istore_n (ls' := [(2, ((2 : Nat) : Int)), (0, (i : Int)), (0, 1)]) lk_57_83 rfl rfl ?_
            refine g_iload_n lk_57_84 rfl ?_
            refine g_if (t := 98) lk_57_85 rfl (by first | (unfold pm_inI; omega) | exact pm_and_in _ _ | exact pm_shr_in _ _ | exact pm_or_in _ _ | exact pm_xor_in _ _ | exact pm_shl_in _ _ | exact pm_cmp_in _ _ | exact pm_b8_in _ | (unfold pm_inI; split <;> omega)) (fun h => absurd h (show ¬ ((1 : Int) = (0 : Int)) by omega)) (fun _ => ?_)
            refine g_aload_n lk_57_88 rfl ?_
            refine g_virtual (p := 2) (Qc := _) lk_57_89 rfl (Nat.le_of_ble_eq_true rfl) rfl rfl (lay.on (by decide) rfl) (Nat.le_of_ble_eq_true rfl) (Nat.le_of_ble_eq_true rfl) (Nat.zero_le _) (Nat.zero_le _) (rt) ?_
            rintro _ K1 ⟨lay1, te1, rfl, ft1⟩
            show Wp _ 57 92 [(2, ((2 : Nat) : Int)), (0, (i : Int)), (0, 1)] [(0, 0)] K1 _ _ _
            refine g_if (t := 105) lk_57_92 rfl (by first | (unfold pm_inI; omega) | exact pm_and_in _ _ | exact pm_shr_in _ _ | exact pm_or_in _ _ | exact pm_xor_in _ _ | exact pm_shl_in _ _ | exact pm_cmp_in _ _ | exact pm_b8_in _ | (unfold pm_inI; split <;> omega)) (fun _ => ?_) (fun h => absurd (show (0 : Int) = (0 : Int) by omega) h)
            refine g_iconst lk_57_105 ?_
            refine g_ireturn lk_57_106 (fun _ => by omega) ?_
            exact q0 e K1 ep lay1 (fK.trans te1.ra) ft1
        | inr y =>
          obtain ⟨x, t'⟩ := y
          rw [pLs_t1 e0 a hp] at ep
          rw [hp] at rt
          obtain ⟨o1, o2, o3, _⟩ := pTree_all n5 kk hp
          have nx := fun K1 v l1 g1 g2 g3 g4 g5 g6 => ih (i + 1) w K1 T (Ts ++ [x]) t' v (by omega) l1 g1 g2 g3 o1 g4 r6 c6 g5 (by rw [List.length_append]; show Ts.length + 1 ≤ 4; omega) g6 w1 ep
          clear ih
          refine g_iload_n lk_57_47 rfl ?_
          refine g_sipush lk_57_48 ?_
          refine g_icmp (t := 113) lk_57_51 rfl (by first | (unfold pm_inI; omega) | exact pm_and_in _ _ | exact pm_shr_in _ _ | exact pm_or_in _ _ | exact pm_xor_in _ _ | exact pm_shl_in _ _ | exact pm_cmp_in _ _ | exact pm_b8_in _ | (unfold pm_inI; split <;> omega)) (by first | (unfold pm_inI; omega) | exact pm_and_in _ _ | exact pm_shr_in _ _ | exact pm_or_in _ _ | exact pm_xor_in _ _ | exact pm_shl_in _ _ | exact pm_cmp_in _ _ | exact pm_b8_in _ | (unfold pm_inI; split <;> omega)) (fun h1 => ?_) (fun h1 => ?_)
          · replace h1 : 500 ≤ (i : Int) := h1
            omega
          · replace h1 : ¬ (500 ≤ (i : Int)) := h1
            refine g_aload_n lk_57_54 rfl ?_
            refine m_getfield (u := []) (M := K) lk_57_55 rfl (lay.on (by decide) rfl) (v := 1) f10' ?_
            refine g_if (t := 113) lk_57_58 rfl (by first | (unfold pm_inI; omega) | exact pm_and_in _ _ | exact pm_shr_in _ _ | exact pm_or_in _ _ | exact pm_xor_in _ _ | exact pm_shl_in _ _ | exact pm_cmp_in _ _ | exact pm_b8_in _ | (unfold pm_inI; split <;> omega)) (fun h => absurd h (show ¬ ((1 : Int) = (0 : Int)) by omega)) (fun _ => ?_)
            refine g_aload_n lk_57_61 rfl ?_
            refine m_getfield (u := []) (M := K) lk_57_62 rfl (lay.on (by decide) rfl) (v := 1) f10' ?_
            refine g_iconst lk_57_65 ?_
            refine g_icmp (t := 82) lk_57_66 rfl (by first | (unfold pm_inI; omega) | exact pm_and_in _ _ | exact pm_shr_in _ _ | exact pm_or_in _ _ | exact pm_xor_in _ _ | exact pm_shl_in _ _ | exact pm_cmp_in _ _ | exact pm_b8_in _ | (unfold pm_inI; split <;> omega)) (by first | (unfold pm_inI; omega) | exact pm_and_in _ _ | exact pm_shr_in _ _ | exact pm_or_in _ _ | exact pm_xor_in _ _ | exact pm_shl_in _ _ | exact pm_cmp_in _ _ | exact pm_b8_in _ | (unfold pm_inI; split <;> omega)) (fun h => absurd h (show ¬ (¬ (1 : Int) = (1 : Int)) by omega)) (fun _ => ?_)
            refine g_aload_n lk_57_69 rfl ?_
            refine m_getfield (u := []) (M := K) lk_57_70 rfl (lay.on (by decide) rfl) (v := 406922) f13' ?_
            refine g_ldc lk_57_73 ?_
            refine g_icmp (t := 82) lk_57_75 rfl (by first | (unfold pm_inI; omega) | exact pm_and_in _ _ | exact pm_shr_in _ _ | exact pm_or_in _ _ | exact pm_xor_in _ _ | exact pm_shl_in _ _ | exact pm_cmp_in _ _ | exact pm_b8_in _ | (unfold pm_inI; split <;> omega)) (by first | (unfold pm_inI; omega) | exact pm_and_in _ _ | exact pm_shr_in _ _ | exact pm_or_in _ _ | exact pm_xor_in _ _ | exact pm_shl_in _ _ | exact pm_cmp_in _ _ | exact pm_b8_in _ | (unfold pm_inI; split <;> omega)) (fun h => absurd h (show ¬ (¬ (406922 : Int) = (406922 : Int)) by omega)) (fun _ => ?_)
            refine g_iconst lk_57_78 ?_
            refine g_goto (t := 83) lk_57_79 rfl ?_
            refine g_istore_n (ls' := [(2, ((2 : Nat) : Int)), (0, (i : Int)), (0, 1)]) lk_57_83 rfl rfl ?_
            refine g_iload_n lk_57_84 rfl ?_
            refine g_if (t := 98) lk_57_85 rfl (by first | (unfold pm_inI; omega) | exact pm_and_in _ _ | exact pm_shr_in _ _ | exact pm_or_in _ _ | exact pm_xor_in _ _ | exact pm_shl_in _ _ | exact pm_cmp_in _ _ | exact pm_b8_in _ | (unfold pm_inI; split <;> omega)) (fun h => absurd h (show ¬ ((1 : Int) = (0 : Int)) by omega)) (fun _ => ?_)
            refine g_aload_n lk_57_88 rfl ?_
            refine g_virtual (p := 2) (Qc := _) lk_57_89 rfl (Nat.le_of_ble_eq_true rfl) rfl rfl (lay.on (by decide) rfl) (Nat.le_of_ble_eq_true rfl) (Nat.le_of_ble_eq_true rfl) (Nat.zero_le _) (Nat.zero_le _) (rt) ?_
            rintro _ K1 ⟨lay1, te1, rfl, tk1, ts1, sv1⟩
            show Wp _ 57 92 [(2, ((2 : Nat) : Int)), (0, (i : Int)), (0, 1)] [(0, 1)] K1 _ _ _
            refine g_if (t := 105) lk_57_92 rfl (by first | (unfold pm_inI; omega) | exact pm_and_in _ _ | exact pm_shr_in _ _ | exact pm_or_in _ _ | exact pm_xor_in _ _ | exact pm_shl_in _ _ | exact pm_cmp_in _ _ | exact pm_b8_in _ | (unfold pm_inI; split <;> omega)) (fun h => absurd h (show ¬ ((1 : Int) = (0 : Int)) by omega)) (fun _ => ?_)
            refine g_goto (t := 107) lk_57_95 rfl ?_
            refine g_iinc (ls' := [(2, ((2 : Nat) : Int)), (0, ((i : Int) + 1)), (0, 1)]) lk_57_107 rfl rfl rfl ?_
            refine g_goto (t := 47) lk_57_110 rfl ?_
            exact nx K1 _ lay1 (fK.trans te1.ra) (sK.trans sv1) tk1 (te1.tb tb) ts1 (by rw [te1.2 8 (by decide)]; exact f8)
      · have rc := c_Reader_readCosts (d := d + 10) (mc := 0) (ms := 0) lay (fK.tc hM) tk kk tb f8 w1
        have s84 : Wp (d + 14) 57 84 [(2, ((2 : Nat) : Int)), (0, (i : Int)), (0, 0)] [] K mc ms Q := by
          cases hp : pCost ch n T w t with
          | inl e =>
            rw [pLs_c0 e0 a hp] at ep
            rw [hp] at rc
            clear ih
            refine g_iload_n lk_57_84 rfl ?_
            refine g_if (t := 98) lk_57_85 rfl (by first | (unfold pm_inI; omega) | exact pm_and_in _ _ | exact pm_shr_in _ _ | exact pm_or_in _ _ | exact pm_xor_in _ _ | exact pm_shl_in _ _ | exact pm_cmp_in _ _ | exact pm_b8_in _ | (unfold pm_inI; split <;> omega)) (fun _ => ?_) (fun h => absurd (show (0 : Int) = (0 : Int) by omega) h)
            refine g_aload_n lk_57_98 rfl ?_
            refine g_virtual (p := 2) (Qc := _) lk_57_99 rfl (Nat.le_of_ble_eq_true rfl) rfl rfl (lay.on (by decide) rfl) (Nat.le_of_ble_eq_true rfl) (Nat.le_of_ble_eq_true rfl) (Nat.zero_le _) (Nat.zero_le _) (rc) ?_
            rintro _ K1 ⟨lay1, co1, rfl, ft1⟩
            show Wp _ 57 102 [(2, ((2 : Nat) : Int)), (0, (i : Int)), (0, 0)] [(0, 0)] K1 _ _ _
            refine g_if (t := 107) lk_57_102 rfl (by first | (unfold pm_inI; omega) | exact pm_and_in _ _ | exact pm_shr_in _ _ | exact pm_or_in _ _ | exact pm_xor_in _ _ | exact pm_shl_in _ _ | exact pm_cmp_in _ _ | exact pm_b8_in _ | (unfold pm_inI; split <;> omega)) (fun h => absurd h (show ¬ (¬ (0 : Int) = (0 : Int)) by omega)) (fun _ => ?_)
            refine g_iconst lk_57_105 ?_
            refine g_ireturn lk_57_106 (fun _ => by omega) ?_
            exact q0 e K1 ep lay1 (fK.trans co1.ra) ft1
          | inr y =>
            obtain ⟨T', t'⟩ := y
            rw [pLs_c1 e0 a hp] at ep
            rw [hp] at rc
            obtain ⟨o1, o2, o3, x, y, _, _, _, _, eT⟩ := pCost_ok n5 kk hp
            have r6' : tR T' ≤ 6 := by rw [eT]; exact r6
            have c6' : tC T' ≤ 6 := by rw [eT]; exact c6
            have nx := fun K1 v l1 g1 g2 g3 g4 g5 g6 => ih (i + 1) 1 K1 T' Ts t' v (by omega) l1 g1 g2 g3 o1 g4 r6' c6' g5 l4 g6 (Nat.le_refl _) ep
            clear ih
            refine g_iload_n lk_57_84 rfl ?_
            refine g_if (t := 98) lk_57_85 rfl (by first | (unfold pm_inI; omega) | exact pm_and_in _ _ | exact pm_shr_in _ _ | exact pm_or_in _ _ | exact pm_xor_in _ _ | exact pm_shl_in _ _ | exact pm_cmp_in _ _ | exact pm_b8_in _ | (unfold pm_inI; split <;> omega)) (fun _ => ?_) (fun h => absurd (show (0 : Int) = (0 : Int) by omega) h)
            refine g_aload_n lk_57_98 rfl ?_
            refine g_virtual (p := 2) (Qc := _) lk_57_99 rfl (Nat.le_of_ble_eq_true rfl) rfl rfl (lay.on (by decide) rfl) (Nat.le_of_ble_eq_true rfl) (Nat.le_of_ble_eq_true rfl) (Nat.zero_le _) (Nat.zero_le _) (rc) ?_
            rintro _ K1 ⟨lay1, co1, rfl, tk1, tb1, c8, sv1⟩
            show Wp _ 57 102 [(2, ((2 : Nat) : Int)), (0, (i : Int)), (0, 0)] [(0, 1)] K1 _ _ _
            refine g_if (t := 107) lk_57_102 rfl (by first | (unfold pm_inI; omega) | exact pm_and_in _ _ | exact pm_shr_in _ _ | exact pm_or_in _ _ | exact pm_xor_in _ _ | exact pm_shl_in _ _ | exact pm_cmp_in _ _ | exact pm_b8_in _ | (unfold pm_inI; split <;> omega)) (fun _ => ?_) (fun h => absurd (show ¬ (1 : Int) = (0 : Int) by omega) h)
            refine g_iinc (ls' := [(2, ((2 : Nat) : Int)), (0, ((i : Int) + 1)), (0, 0)]) lk_57_107 rfl rfl rfl ?_
            refine g_goto (t := 47) lk_57_110 rfl ?_
            exact nx K1 _ lay1 (fK.trans co1.ra) (sK.trans sv1) tk1 tb1 (CoF.trs ts co1) c8
        clear ih
        by_cases e : t.1 = 1
        · have f10' : pm_ct K 2 10 = 1 := by rw [f10, e]; rfl
          have f13 : pm_ct K 2 13 = ((nr 27 (twd ch t) : Nat) : Int) := tk.2.2.2.2 e
          have ws : nr 27 (twd ch t) < 1073741824 := nr_small (b := 27) (by omega) (by omega) (kk.lt e)
          have ne : ¬ (nr 27 (twd ch t) : Int) = 406922 := fun q => a ⟨e, (w27_con (kk.lt e)).2.2.2.1.mp q⟩
          obtain ⟨v, hv⟩ : ∃ v, v = nr 27 (twd ch t) := ⟨_, rfl⟩
          rw [← hv] at f13 ws ne
          refine g_iload_n lk_57_47 rfl ?_
          refine g_sipush lk_57_48 ?_
          refine g_icmp (t := 113) lk_57_51 rfl (by first | (unfold pm_inI; omega) | exact pm_and_in _ _ | exact pm_shr_in _ _ | exact pm_or_in _ _ | exact pm_xor_in _ _ | exact pm_shl_in _ _ | exact pm_cmp_in _ _ | exact pm_b8_in _ | (unfold pm_inI; split <;> omega)) (by first | (unfold pm_inI; omega) | exact pm_and_in _ _ | exact pm_shr_in _ _ | exact pm_or_in _ _ | exact pm_xor_in _ _ | exact pm_shl_in _ _ | exact pm_cmp_in _ _ | exact pm_b8_in _ | (unfold pm_inI; split <;> omega)) (fun h1 => ?_) (fun h1 => ?_)
          · replace h1 : 500 ≤ (i : Int) := h1
            omega
          · replace h1 : ¬ (500 ≤ (i : Int)) := h1
            refine g_aload_n lk_57_54 rfl ?_
            refine m_getfield (u := []) (M := K) lk_57_55 rfl (lay.on (by decide) rfl) (v := 1) f10' ?_
            refine g_if (t := 113) lk_57_58 rfl (by first | (unfold pm_inI; omega) | exact pm_and_in _ _ | exact pm_shr_in _ _ | exact pm_or_in _ _ | exact pm_xor_in _ _ | exact pm_shl_in _ _ | exact pm_cmp_in _ _ | exact pm_b8_in _ | (unfold pm_inI; split <;> omega)) (fun h => absurd h (show ¬ ((1 : Int) = (0 : Int)) by omega)) (fun _ => ?_)
            refine g_aload_n lk_57_61 rfl ?_
            refine m_getfield (u := []) (M := K) lk_57_62 rfl (lay.on (by decide) rfl) (v := 1) f10' ?_
            refine g_iconst lk_57_65 ?_
            refine g_icmp (t := 82) lk_57_66 rfl (by first | (unfold pm_inI; omega) | exact pm_and_in _ _ | exact pm_shr_in _ _ | exact pm_or_in _ _ | exact pm_xor_in _ _ | exact pm_shl_in _ _ | exact pm_cmp_in _ _ | exact pm_b8_in _ | (unfold pm_inI; split <;> omega)) (by first | (unfold pm_inI; omega) | exact pm_and_in _ _ | exact pm_shr_in _ _ | exact pm_or_in _ _ | exact pm_xor_in _ _ | exact pm_shl_in _ _ | exact pm_cmp_in _ _ | exact pm_b8_in _ | (unfold pm_inI; split <;> omega)) (fun h => absurd h (show ¬ (¬ (1 : Int) = (1 : Int)) by omega)) (fun _ => ?_)
            refine g_aload_n lk_57_69 rfl ?_
            refine m_getfield (u := []) (M := K) lk_57_70 rfl (lay.on (by decide) rfl) (v := (v : Int)) f13 ?_
            refine g_ldc lk_57_73 ?_
            refine g_icmp (t := 82) lk_57_75 rfl (by first | (unfold pm_inI; omega) | exact pm_and_in _ _ | exact pm_shr_in _ _ | exact pm_or_in _ _ | exact pm_xor_in _ _ | exact pm_shl_in _ _ | exact pm_cmp_in _ _ | exact pm_b8_in _ | (unfold pm_inI; split <;> omega)) (by first | (unfold pm_inI; omega) | exact pm_and_in _ _ | exact pm_shr_in _ _ | exact pm_or_in _ _ | exact pm_xor_in _ _ | exact pm_shl_in _ _ | exact pm_cmp_in _ _ | exact pm_b8_in _ | (unfold pm_inI; split <;> omega)) (fun h2 => ?_) (fun h2 => ?_)
            · replace h2 : ¬ (v : Int) = 406922 := h2
              refine g_iconst lk_57_82 ?_
              refine g_istore_n (ls' := [(2, ((2 : Nat) : Int)), (0, (i : Int)), (0, 0)]) lk_57_83 rfl rfl ?_
              exact s84
            · replace h2 : ¬ (¬ (v : Int) = 406922) := h2
              omega
        · obtain ⟨v, hv⟩ : ∃ v, v = t.1 := ⟨_, rfl⟩
          rw [← hv] at f10 t4 e e0
          refine g_iload_n lk_57_47 rfl ?_
          refine g_sipush lk_57_48 ?_
          refine g_icmp (t := 113) lk_57_51 rfl (by first | (unfold pm_inI; omega) | exact pm_and_in _ _ | exact pm_shr_in _ _ | exact pm_or_in _ _ | exact pm_xor_in _ _ | exact pm_shl_in _ _ | exact pm_cmp_in _ _ | exact pm_b8_in _ | (unfold pm_inI; split <;> omega)) (by first | (unfold pm_inI; omega) | exact pm_and_in _ _ | exact pm_shr_in _ _ | exact pm_or_in _ _ | exact pm_xor_in _ _ | exact pm_shl_in _ _ | exact pm_cmp_in _ _ | exact pm_b8_in _ | (unfold pm_inI; split <;> omega)) (fun h1 => ?_) (fun h1 => ?_)
          · replace h1 : 500 ≤ (i : Int) := h1
            omega
          · replace h1 : ¬ (500 ≤ (i : Int)) := h1
            refine g_aload_n lk_57_54 rfl ?_
            refine m_getfield (u := []) (M := K) lk_57_55 rfl (lay.on (by decide) rfl) (v := (v : Int)) f10 ?_
            refine g_if (t := 113) lk_57_58 rfl (by first | (unfold pm_inI; omega) | exact pm_and_in _ _ | exact pm_shr_in _ _ | exact pm_or_in _ _ | exact pm_xor_in _ _ | exact pm_shl_in _ _ | exact pm_cmp_in _ _ | exact pm_b8_in _ | (unfold pm_inI; split <;> omega)) (fun h2 => ?_) (fun h2 => ?_)
            · replace h2 : (v : Int) = 0 := h2
              omega
            · replace h2 : ¬ ((v : Int) = 0) := h2
              refine g_aload_n lk_57_61 rfl ?_
              refine m_getfield (u := []) (M := K) lk_57_62 rfl (lay.on (by decide) rfl) (v := (v : Int)) f10 ?_
              refine g_iconst lk_57_65 ?_
              refine g_icmp (t := 82) lk_57_66 rfl (by first | (unfold pm_inI; omega) | exact pm_and_in _ _ | exact pm_shr_in _ _ | exact pm_or_in _ _ | exact pm_xor_in _ _ | exact pm_shl_in _ _ | exact pm_cmp_in _ _ | exact pm_b8_in _ | (unfold pm_inI; split <;> omega)) (by first | (unfold pm_inI; omega) | exact pm_and_in _ _ | exact pm_shr_in _ _ | exact pm_or_in _ _ | exact pm_xor_in _ _ | exact pm_shl_in _ _ | exact pm_cmp_in _ _ | exact pm_b8_in _ | (unfold pm_inI; split <;> omega)) (fun h3 => ?_) (fun h3 => ?_)
              · replace h3 : ¬ (v : Int) = 1 := h3
                refine g_iconst lk_57_82 ?_
                refine g_istore_n (ls' := [(2, ((2 : Nat) : Int)), (0, (i : Int)), (0, 0)]) lk_57_83 rfl rfl ?_
                exact s84
              · replace h3 : ¬ (¬ (v : Int) = 1) := h3
                omega
