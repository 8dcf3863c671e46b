/-! ===== Spoilt: ten budgets in one number ===== -/
theorem or_lo {a x : Nat} (hx : x < 64) : a * 64 ||| x = a * 64 + x := by
  have h := Nat.shiftLeft_add_eq_or_of_lt (b := x) (i := 6) hx a
  rw [Nat.shiftLeft_eq] at h
  exact h.symm
theorem pm_push {c x : Nat} (hc : c < 1152921504606846976) (hx : x < 64) : pm_andL (pm_orL (pm_shlL (c : Int) 6) (x : Int)) 1152921504606846975 = (((c * 64 + x) % 1152921504606846976 : Nat) : Int) := by
  unfold pm_andL pm_orL pm_shlL
  rw [Int64.ofInt_toInt, Int64.ofInt_toInt, pm_ofNL, pm_ofNL]
  have h0 := pm_shlL_tab ⟨6, by omega⟩
  obtain ⟨k, hk⟩ : ∃ k, k = ((Int32.ofInt 6).toInt64 &&& 63) := ⟨_, rfl⟩
  replace h0 : (k.toBitVec.smod 64).toNat = 6 := by rw [hk]; exact h0
  rw [← hk]
  show ((((BitVec.ofNat 64 c) <<< (k.toBitVec.smod 64)) ||| BitVec.ofNat 64 x) &&& (Int64.ofInt 1152921504606846975).toBitVec).toInt = _
  have hm : (Int64.ofInt 1152921504606846975).toBitVec = BitVec.ofNat 64 1152921504606846975 := by decide
  have h2 : ((((BitVec.ofNat 64 c) <<< (k.toBitVec.smod 64)) ||| BitVec.ofNat 64 x) &&& (Int64.ofInt 1152921504606846975).toBitVec).toNat = (c * 64 + x) % 1152921504606846976 := by
    rw [hm, BitVec.toNat_and, BitVec.toNat_or, BitVec.shiftLeft_eq', BitVec.toNat_shiftLeft, h0, BitVec.toNat_ofNat, BitVec.toNat_ofNat, BitVec.toNat_ofNat, Nat.shiftLeft_eq, Nat.mod_eq_of_lt (show c < 2 ^ 64 by omega), Nat.mod_eq_of_lt (show x < 2 ^ 64 by omega), Nat.mod_eq_of_lt (show 1152921504606846975 < 2 ^ 64 by omega)]
    rw [show (1152921504606846975 : Nat) = 2 ^ 60 - 1 from rfl, Nat.and_two_pow_sub_one_eq_mod, Nat.or_mod_two_pow]
    rw [show c * 2 ^ 6 % 2 ^ 64 % 2 ^ 60 = (c % 18014398509481984) * 64 by omega, Nat.mod_eq_of_lt (show x < 2 ^ 60 by omega), or_lo hx]
    omega
  rw [BitVec.toInt_eq_toNat_of_lt (by rw [h2]; omega), h2]
theorem push_0 {c x : Nat} (hx : x < 64) : ((c * 64 + x) % 1152921504606846976) % 64 = x := by omega
theorem push_s {c x j : Nat} (hx : x < 64) (hj : j ≤ 8) : ((c * 64 + x) % 1152921504606846976) / 64 ^ (j + 1) % 64 = c / 64 ^ j % 64 := by
  rcases (by omega : j = 0 ∨ j = 1 ∨ j = 2 ∨ j = 3 ∨ j = 4 ∨ j = 5 ∨ j = 6 ∨ j = 7 ∨ j = 8) with e | e | e | e | e | e | e | e | e
  all_goals (subst e; simp only [Nat.reducePow, Nat.reduceAdd]; omega)
/-- a number that holds the latest ten of f 0 .. f L -/
def PkL (c L : Nat) (f : Nat → Nat) : Prop := c < 1152921504606846976 ∧ ∀ j, j ≤ 9 → j ≤ L → c / 64 ^ j % 64 = f (L - j)
theorem PkL_push {c L x : Nat} {f : Nat → Nat} (h : PkL c L f) (hx : x < 64) (hf : x = f (L + 1)) : PkL ((c * 64 + x) % 1152921504606846976) (L + 1) f := by
  refine ⟨Nat.mod_lt _ (by omega), fun j h1 h2 => ?_⟩
  cases j with
  | zero => rw [Nat.pow_zero, Nat.div_one, push_0 hx, hf]; rfl
  | succ j => rw [push_s hx (by omega), h.2 j (by omega) (by omega), show L + 1 - (j + 1) = L - j by omega]
theorem pm_shr6 {c k : Nat} (hc : c < 1152921504606846976) (hk : k ≤ 9) : pm_andL (pm_shrL (c : Int) ((k : Int) * 6)) 63 = ((c / 64 ^ k % 64 : Nat) : Int) := pm_dig hc (by omega)
def CnAt (M : pm_M) (cn i k x : Nat) : Prop := ∃ c : Nat, pm_ct M cn i = (c : Int) ∧ c < 1152921504606846976 ∧ c / 64 ^ k % 64 = x
set_option maxHeartbeats 8000000 in
theorem c_Spoilt_splitBack {d mc ms : Nat} {M : pm_M} (lay : Lay M) {cn n : Nat} (w3 : pm_ct M 51 3 = ((cn : Nat) : Int)) (hay : pm_ay M cn 101 n) {s : Nat} (hs : s < 64) (h0 : s ≠ 0) {sh fx k : Nat} (hk : k ≤ 9) {ix g : Nat → Nat} (hix : ∀ q, Sb q s = true → pm_or (pm_shl (q : Int) (sh : Int)) (fx : Int) = (ix q : Int) ∧ ix q < n) (hg : ∀ q, Sb q s = true → 1 ≤ q → q < s → CnAt M cn (ix q) k (g q)) :
    pm_E (d + 1) 80 [(2, ((51 : Nat) : Int)), (0, (s : Int)), (0, (sh : Int)), (0, (fx : Int)), (0, (k : Int))] M mc ms (fun ρ M' => ρ = some (0, (spl 1 g s : Int)) ∧ M' = M) := by
  obtain ⟨Q, hQ⟩ : ∃ Q : pm_Q, Q = (fun ρ M' => ρ = some (0, (spl 1 g s : Int)) ∧ M' = M) := ⟨_, rfl⟩
  rw [← hQ]
  obtain ⟨q0, q5, q1, q2, -⟩ := lw_tab ⟨s, hs⟩ h0
  replace q0 : pm_and (s : Int) (-(s : Int)) = ((lw s : Nat) : Int) := q0
  replace q5 : pm_xor (s : Int) ((lw s : Nat) : Int) = ((s - lw s : Nat) : Int) := q5
  replace q1 : 1 ≤ lw s := q1
  replace q2 : lw s ≤ s := q2
  obtain ⟨lo, hlo⟩ : ∃ lo, lo = lw s := ⟨_, rfl⟩
  obtain ⟨r, hr⟩ : ∃ r, r = s - lw s := ⟨_, rfl⟩
  rw [← hlo] at q0 q1 q2
  rw [← hr, ← hlo] at q5
  have loop : ∀ (part least : Nat) (v11 v12 v13 v14 : pm_V), Sb part r = true → least ≤ 1000000 → (∀ q, Sb q r = true → part ≤ q → q < r → least ≤ spF 1 g s (lo + q)) → (least = 1000000 ∨ ∃ q, Sb q r = true ∧ q < r ∧ least = spF 1 g s (lo + q)) →
      Wp (d + 1) 80 28 [(2, ((51 : Nat) : Int)), (0, (s : Int)), (0, (sh : Int)), (0, (fx : Int)), (0, (k : Int)), (0, (lo : Int)), (0, (r : Int)), (0, (k : Int) * 6), (1, (least : Int)), (9, 0), (0, (part : Int)), v11, v12, v13, v14] [] M mc ms Q := by
    intro part
    induction part using Nat.strongRecOn with
    | ind part ih =>
      intro least v11 v12 v13 v14 hb2 j1 j2 j3
      have hle := Sb_le hb2
      have back : ∀ q, Sb q r = true → q < r → spC s (lo + q) = true ∧ lo + q < s := fun q a1 a2 => by
        obtain ⟨-, -, c3, -, c5⟩ := sub_tab ⟨s, hs⟩ ⟨q, by clear j3; omega⟩ h0 (by show Sb q (s - lw s) = true; rw [← hr]; exact a1)
        refine ⟨?_, by clear j3; omega⟩
        unfold spC
        rw [Bool.and_eq_true, hlo]
        exact ⟨c3, c5⟩
      have fin : (part = 0 ∨ least = 0) → Q (some (0, (least : Int))) M := fun hz => by
        have el : least = spl 1 g s := by
          refine mn_uniq j1 (fun q a1 a2 => ?_) ?_
          · obtain ⟨c1, c2, c3, c4, -⟩ := spC_s hs h0 a1 a2
            rw [← hlo] at c3 c4
            rcases hz with e | e
            · have := j2 (q - lo) (by rw [hr, ← hlo]; exact c4) (by clear j3; omega) (by clear j3; omega)
              rw [show lo + (q - lo) = q by clear j3; omega] at this
              exact this
            · rw [e]; exact Nat.zero_le _
          · rcases j3 with e | ⟨q, e1, e2, e3⟩
            · exact Or.inl e
            · exact Or.inr ⟨lo + q, (back q e1 e2).2, (back q e1 e2).1, e3⟩
        rw [hQ, el]
        exact ⟨rfl, rfl⟩
      have e0 := pm_cmp0 (x := least) (by clear j3; omega)
      by_cases hp0 : part = 0
      · have f0 := fin (Or.inl hp0)
        subst hp0
        clear j3
        refine g_iload lk_80_28 rfl ?_
        refine g_if (t := 110) lk_80_30 rfl (by first | (unfold pm_inI; omega) | exact pm_and_in _ _ | exact pm_shr_in _ _ | exact pm_or_in _ _ | exact pm_xor_in _ _ | exact pm_shl_in _ _ | exact pm_cmp_in _ _ | exact pm_b8_in _ | (unfold pm_inI; split <;> omega)) (fun _ => ?_) (fun h => absurd (show (0 : Int) ≤ (0 : Int) by omega) h)
        refine g_lload lk_80_110 rfl ?_
        refine g_l2i lk_80_112 ?_
        refine g_ireturn lk_80_113 (fun h => absurd h (by decide)) ?_
        exact f0
      · obtain ⟨nx, hnx⟩ : ∃ nx, nx = ((part - 1) &&& r) := ⟨_, rfl⟩
        have k1 : pm_and ((part : Int) - 1) (r : Int) = (nx : Int) := by
          clear j3
          rw [show (part : Int) - 1 = ((part - 1 : Nat) : Int) by omega, pm_and_n (by omega) (by omega), hnx]
        have k2 : Sb nx r = true := by rw [hnx]; exact Sb_and _ _
        have k3 : nx < part := by rw [hnx]; exact sub_dec (by clear j3; omega)
        obtain ⟨k5, k6, k7, k8, -⟩ := sub_tab ⟨s, hs⟩ ⟨nx, by clear j3; omega⟩ h0 (by show Sb nx (s - lw s) = true; rw [← hr]; exact k2)
        replace k5 : pm_or (lo : Int) (nx : Int) = ((lo + nx : Nat) : Int) := by rw [hlo]; exact k5
        replace k6 : pm_xor (r : Int) (nx : Int) = ((r - nx : Nat) : Int) := by rw [hr]; exact k6
        replace k7 : Sb (lo + nx) s = true := by rw [hlo]; exact k7
        replace k8 : Sb (r - nx) s = true := Sb_trans (q := r) (by rw [hr]; exact k8) (by rw [hr]; exact rest_tab ⟨s, hs⟩)
        obtain ⟨wn, hwn⟩ : ∃ wn, wn = lo + nx := ⟨_, rfl⟩
        obtain ⟨rn, hrn⟩ : ∃ rn, rn = r - nx := ⟨_, rfl⟩
        rw [← hwn] at k5 k7
        rw [← hrn] at k6 k8
        obtain ⟨i1, hi1⟩ : ∃ i, i = ix wn := ⟨_, rfl⟩
        obtain ⟨i2, hi2⟩ : ∃ i, i = ix rn := ⟨_, rfl⟩
        have a1 : pm_or (pm_shl (wn : Int) (sh : Int)) (fx : Int) = (i1 : Int) := by rw [hi1]; exact (hix wn k7).1
        have a2 : pm_or (pm_shl (rn : Int) (sh : Int)) (fx : Int) = (i2 : Int) := by rw [hi2]; exact (hix rn k8).1
        have l1 : i1 < n := by rw [hi1]; exact (hix wn k7).2
        have l2 : i2 < n := by rw [hi2]; exact (hix rn k8).2
        obtain ⟨c1, m1, x1, y1⟩ := hg wn k7 (by clear j3; omega) (by clear j3; omega)
        obtain ⟨c2, m2, x2, y2⟩ := hg rn k8 (by clear j3; omega) (by clear j3; omega)
        rw [← hi1] at m1
        rw [← hi2] at m2
        have d1 := pm_shr6 x1 hk
        have d2 := pm_shr6 x2 hk
        rw [y1] at d1
        rw [y2] at d2
        have g1 : g wn < 64 := by rw [← y1]; exact Nat.mod_lt _ (by omega)
        have g2 : g rn < 64 := by rw [← y2]; exact Nat.mod_lt _ (by omega)
        have eF : spF 1 g s (lo + nx) = g wn + g rn := by
          have e9 : s - wn = rn := by clear j3; omega
          unfold spF
          rw [← hwn, e9]; rfl
        obtain ⟨z1, hz1⟩ : ∃ z, z = g wn := ⟨_, rfl⟩
        obtain ⟨z2, hz2⟩ : ∃ z, z = g rn := ⟨_, rfl⟩
        rw [← hz1] at d1 g1
        rw [← hz2] at d2 g2
        rw [← hz1, ← hz2] at eF
        have next : ∀ (v11 v12 v13 v14 : pm_V), Wp (d + 1) 80 28 [(2, ((51 : Nat) : Int)), (0, (s : Int)), (0, (sh : Int)), (0, (fx : Int)), (0, (k : Int)), (0, (lo : Int)), (0, (r : Int)), (0, (k : Int) * 6), (1, ((min least (z1 + z2) : Nat) : Int)), (9, 0), (0, (nx : Int)), v11, v12, v13, v14] [] M mc ms Q := by
          intro v11 v12 v13 v14
          refine ih nx k3 (min least (z1 + z2)) v11 v12 v13 v14 k2 (by clear j3; omega) (fun q b1 b2 b3 => ?_) ?_
          · by_cases e : q = nx
            · rw [e, eF]; exact Nat.min_le_right _ _
            · refine Nat.le_trans (Nat.min_le_left _ _) (j2 q b1 (Nat.le_of_not_lt (fun c => ?_)) b3)
              have := sub_next part q r hb2 b1 c
              rw [← hnx] at this
              clear j3
              omega
          · by_cases c : least ≤ z1 + z2
            · rw [Nat.min_eq_left c]; exact j3
            · rw [Nat.min_eq_right (by clear j3; omega)]
              exact Or.inr ⟨nx, k2, by clear j3; omega, eF.symm⟩
        clear j3
        have em : min (least : Int) ((z1 : Int) + (z2 : Int)) = ((min least (z1 + z2) : Nat) : Int) := by omega
        refine g_iload lk_80_28 rfl ?_
        refine g_if (t := 110) lk_80_30 rfl (by first | (unfold pm_inI; omega) | (unfold pm_inL; omega) | exact pm_cmp_in _ _ | (unfold pm_inI; split <;> omega)) (fun h1 => ?_) (fun h1 => ?_)
        · replace h1 : (part : Int) ≤ 0 := h1
          refine g_lload lk_80_110 rfl ?_
          refine g_l2i lk_80_112 ?_
          refine g_ireturn lk_80_113 (fun h => absurd h (by decide)) ?_
          omega
        · replace h1 : ¬ ((part : Int) ≤ 0) := h1
          refine g_lload lk_80_33 rfl ?_
          refine g_lconst lk_80_35 ?_
          refine g_lcmp lk_80_36 ?_
          refine g_top (z := (pm_cmp (pm_wL (least : Int)) (pm_wL 0))) (z' := (if least = 0 then (0 : Int) else 1)) (e0) ?_
          refine g_if (t := 110) lk_80_37 rfl (by first | (unfold pm_inI; omega) | (unfold pm_inL; omega) | exact pm_cmp_in _ _ | (unfold pm_inI; split <;> omega)) (fun h2 => ?_) (fun h2 => ?_)
          · replace h2 : (if least = 0 then (0 : Int) else 1) ≤ 0 := h2
            refine g_lload lk_80_110 rfl ?_
            refine g_l2i lk_80_112 ?_
            refine g_ireturn lk_80_113 (fun h => absurd h (by decide)) ?_
            refine fin (Or.inr ?_)
            split at h2
            · assumption
            · omega
          · replace h2 : ¬ ((if least = 0 then (0 : Int) else 1) ≤ 0) := h2
            refine g_iload lk_80_40 rfl ?_
            refine g_iconst lk_80_42 ?_
            refine g_isub lk_80_43 ?_
            refine g_iload lk_80_44 rfl ?_
            refine g_iand lk_80_46 ?_
            refine g_top (z := (pm_and ((part : Int) - 1) (r : Int))) (z' := (nx : Int)) (k1) ?_
            refine g_istore (ls' := [(2, ((51 : Nat) : Int)), (0, (s : Int)), (0, (sh : Int)), (0, (fx : Int)), (0, (k : Int)), (0, (lo : Int)), (0, (r : Int)), (0, ((k : Int) * 6)), (1, (least : Int)), (9, 0), (0, (nx : Int)), v11, v12, v13, v14]) lk_80_47 rfl rfl ?_
            refine g_aload_n lk_80_49 rfl ?_
            refine m_getfield (u := []) (M := M) lk_80_50 rfl (lay.on (by decide) rfl) (v := ((cn : Nat) : Int)) w3 ?_
            refine g_iload lk_80_53 rfl ?_
            refine g_iload lk_80_55 rfl ?_
            refine g_ior lk_80_57 ?_
            refine g_top (z := (pm_or (lo : Int) (nx : Int))) (z' := (wn : Int)) (k5) ?_
            refine g_iload_n lk_80_58 rfl ?_
            refine g_ishl lk_80_59 ?_
            refine g_iload_n lk_80_60 rfl ?_
            refine g_ior lk_80_61 ?_
            refine g_top (z := (pm_or (pm_shl (wn : Int) (sh : Int)) (fx : Int))) (z' := (i1 : Int)) (a1) ?_
            refine g_laload lk_80_62 hay (by omega) (v := (c1 : Int)) m1 ?_
            refine g_iload lk_80_63 rfl ?_
            refine g_lshr lk_80_65 ?_
            refine g_ldc2_w lk_80_66 ?_
            refine g_land lk_80_69 ?_
            refine g_top (z := (pm_andL (pm_shrL (c1 : Int) ((k : Int) * 6)) 63)) (z' := (z1 : Int)) (d1) ?_
            refine g_lstore (ls' := [(2, ((51 : Nat) : Int)), (0, (s : Int)), (0, (sh : Int)), (0, (fx : Int)), (0, (k : Int)), (0, (lo : Int)), (0, (r : Int)), (0, ((k : Int) * 6)), (1, (least : Int)), (9, 0), (0, (nx : Int)), (1, (z1 : Int)), (9, 0), v13, v14]) lk_80_70 rfl rfl ?_
            refine g_aload_n lk_80_72 rfl ?_
            refine m_getfield (u := []) (M := M) lk_80_73 rfl (lay.on (by decide) rfl) (v := ((cn : Nat) : Int)) w3 ?_
            refine g_iload lk_80_76 rfl ?_
            refine g_iload lk_80_78 rfl ?_
            refine g_ixor lk_80_80 ?_
            refine g_top (z := (pm_xor (r : Int) (nx : Int))) (z' := (rn : Int)) (k6) ?_
            refine g_iload_n lk_80_81 rfl ?_
            refine g_ishl lk_80_82 ?_
            refine g_iload_n lk_80_83 rfl ?_
            refine g_ior lk_80_84 ?_
            refine g_top (z := (pm_or (pm_shl (rn : Int) (sh : Int)) (fx : Int))) (z' := (i2 : Int)) (a2) ?_
            refine g_laload lk_80_85 hay (by omega) (v := (c2 : Int)) m2 ?_
            refine g_iload lk_80_86 rfl ?_
            refine g_lshr lk_80_88 ?_
            refine g_ldc2_w lk_80_89 ?_
            refine g_land lk_80_92 ?_
            refine g_top (z := (pm_andL (pm_shrL (c2 : Int) ((k : Int) * 6)) 63)) (z' := (z2 : Int)) (d2) ?_
            refine g_lstore (ls' := [(2, ((51 : Nat) : Int)), (0, (s : Int)), (0, (sh : Int)), (0, (fx : Int)), (0, (k : Int)), (0, (lo : Int)), (0, (r : Int)), (0, ((k : Int) * 6)), (1, (least : Int)), (9, 0), (0, (nx : Int)), (1, (z1 : Int)), (9, 0), (1, (z2 : Int)), (9, 0)]) lk_80_93 rfl rfl ?_
            refine g_lload lk_80_95 rfl ?_
            refine g_lload lk_80_97 rfl ?_
            refine g_lload lk_80_99 rfl ?_
            refine g_ladd lk_80_101 ?_
            refine g_lmin lk_80_102 (by first | (unfold pm_inI; omega) | (unfold pm_inL; omega) | exact pm_cmp_in _ _ | (unfold pm_inI; split <;> omega)) (by first | (unfold pm_inI; omega) | (unfold pm_inL; omega) | exact pm_cmp_in _ _ | (unfold pm_inI; split <;> omega)) (Nat.le_of_ble_eq_true rfl) ?_
            refine g_top (z := (min (least : Int) ((z1 : Int) + (z2 : Int)))) (z' := ((min least (z1 + z2) : Nat) : Int)) (em) ?_
            refine g_lstore (ls' := [(2, ((51 : Nat) : Int)), (0, (s : Int)), (0, (sh : Int)), (0, (fx : Int)), (0, (k : Int)), (0, (lo : Int)), (0, (r : Int)), (0, ((k : Int) * 6)), (1, ((min least (z1 + z2) : Nat) : Int)), (9, 0), (0, (nx : Int)), (1, (z1 : Int)), (9, 0), (1, (z2 : Int)), (9, 0)]) lk_80_105 rfl rfl ?_
            refine g_goto (t := 28) lk_80_107 rfl ?_
            exact next _ _ _ _
  show Wp (d + 1) 80 0 [(2, ((51 : Nat) : Int)), (0, (s : Int)), (0, (sh : Int)), (0, (fx : Int)), (0, (k : Int)), (9, 0), (9, 0), (9, 0), (9, 0), (9, 0), (9, 0), (9, 0), (9, 0), (9, 0), (9, 0)] [] M mc ms Q
  refine g_iload_n lk_80_0 rfl ?_
  refine g_iload_n lk_80_1 rfl ?_
  refine g_ineg lk_80_2 ?_
  refine g_iand lk_80_3 ?_
  refine g_top (z := (pm_and (s : Int) (-(s : Int)))) (z' := (lo : Int)) (q0) ?_
  refine g_istore (ls' := [(2, ((51 : Nat) : Int)), (0, (s : Int)), (0, (sh : Int)), (0, (fx : Int)), (0, (k : Int)), (0, (lo : Int)), (9, 0), (9, 0), (9, 0), (9, 0), (9, 0), (9, 0), (9, 0), (9, 0), (9, 0)]) lk_80_4 rfl rfl ?_
  refine g_iload_n lk_80_6 rfl ?_
  refine g_iload lk_80_7 rfl ?_
  refine g_ixor lk_80_9 ?_
  refine g_top (z := (pm_xor (s : Int) (lo : Int))) (z' := (r : Int)) (q5) ?_
  refine g_istore (ls' := [(2, ((51 : Nat) : Int)), (0, (s : Int)), (0, (sh : Int)), (0, (fx : Int)), (0, (k : Int)), (0, (lo : Int)), (0, (r : Int)), (9, 0), (9, 0), (9, 0), (9, 0), (9, 0), (9, 0), (9, 0), (9, 0)]) lk_80_10 rfl rfl ?_
  refine g_iload lk_80_12 rfl ?_
  refine g_bipush lk_80_14 ?_
  refine g_imul lk_80_16 ?_
  refine g_istore (ls' := [(2, ((51 : Nat) : Int)), (0, (s : Int)), (0, (sh : Int)), (0, (fx : Int)), (0, (k : Int)), (0, (lo : Int)), (0, (r : Int)), (0, ((k : Int) * 6)), (9, 0), (9, 0), (9, 0), (9, 0), (9, 0), (9, 0), (9, 0)]) lk_80_17 rfl rfl ?_
  refine g_ldc2_w lk_80_19 ?_
  refine g_lstore (ls' := [(2, ((51 : Nat) : Int)), (0, (s : Int)), (0, (sh : Int)), (0, (fx : Int)), (0, (k : Int)), (0, (lo : Int)), (0, (r : Int)), (0, ((k : Int) * 6)), (1, 1000000), (9, 0), (9, 0), (9, 0), (9, 0), (9, 0), (9, 0)]) lk_80_22 rfl rfl ?_
  refine g_iload lk_80_24 rfl ?_
  refine g_istore (ls' := [(2, ((51 : Nat) : Int)), (0, (s : Int)), (0, (sh : Int)), (0, (fx : Int)), (0, (k : Int)), (0, (lo : Int)), (0, (r : Int)), (0, ((k : Int) * 6)), (1, 1000000), (9, 0), (0, (r : Int)), (9, 0), (9, 0), (9, 0), (9, 0)]) lk_80_26 rfl rfl ?_
  exact loop r 1000000 _ _ _ _ (Sb_refl r) (Nat.le_refl _) (fun q _ a b => by omega) (Or.inl rfl)
def LvOK (M : pm_M) (T : Tab) (cn L : Nat) : Prop := ∀ rs cs, inT T rs cs → ∃ c : Nat, pm_ct M cn (num T rs cs) = (c : Int) ∧ PkL c L (fun b => ER T b rs cs)
def Flb (T : Tab) (f L : Nat) : Prop := f < 2 ^ (L + 1) ∧ f.testBit 0 = true ∧ ∀ j, 1 ≤ j → j ≤ L → f.testBit j = false → ∀ rs cs, inT T rs cs → ER T j rs cs = ER T (j - 1) rs cs
theorem c_Spoilt_mayHelp {d mc ms : Nat} {M : pm_M} (lay : Lay M) {f : Nat} (hf : pm_ct M 51 5 = (f : Int)) (f31 : f < 2147483648) {k c : Nat} (hk : k ≤ 20) (hc : c ≤ 9) :
    pm_E d 78 [(2, ((51 : Nat) : Int)), (0, (k : Int)), (0, (c : Int))] M mc ms (fun ρ M' => ρ = some (0, if c ≤ k ∧ f.testBit (k - c) = true then 1 else 0) ∧ M' = M) := by
  have e : c ≤ k → pm_and (pm_shr (f : Int) ((k : Int) - (c : Int))) 1 = if f.testBit (k - c) then 1 else 0 := fun h => by
    have := pm_bit (s := f) (k := k - c) f31 (by omega)
    rw [show ((k - c : Nat) : Int) = (k : Int) - (c : Int) by omega] at this
    exact this
  show Wp d 78 0 [(2, ((51 : Nat) : Int)), (0, (k : Int)), (0, (c : Int))] [] M mc ms _
  refine g_iload_n lk_78_0 rfl ?_
  refine g_iload_n lk_78_1 rfl ?_
  refine g_icmp (t := 22) lk_78_2 rfl (by first | (unfold pm_inI; omega) | exact pm_and_in _ _ | exact pm_shr_in _ _ | exact pm_or_in _ _ | exact pm_xor_in _ _ | exact pm_shl_in _ _ | exact pm_cmp_in _ _ | exact pm_b8_in _ | (unfold pm_inI; split <;> omega)) (by first | (unfold pm_inI; omega) | exact pm_and_in _ _ | exact pm_shr_in _ _ | exact pm_or_in _ _ | exact pm_xor_in _ _ | exact pm_shl_in _ _ | exact pm_cmp_in _ _ | exact pm_b8_in _ | (unfold pm_inI; split <;> omega)) (fun h1 => ?_) (fun h1 => ?_)
  · replace h1 : (k : Int) < (c : Int) := h1
    refine g_iconst lk_78_22 ?_
    refine g_ireturn lk_78_23 (fun _ => by omega) ?_
    refine ⟨?_, rfl⟩
    rw [if_neg (by omega)]
  · replace h1 : ¬ ((k : Int) < (c : Int)) := h1
    refine g_aload_n lk_78_5 rfl ?_
    refine m_getfield (u := []) (M := M) lk_78_6 rfl (lay.on (by decide) rfl) (v := (f : Int)) hf ?_
    refine g_iload_n lk_78_9 rfl ?_
    refine g_iload_n lk_78_10 rfl ?_
    refine g_isub lk_78_11 ?_
    refine g_ishr lk_78_12 ?_
    refine g_iconst lk_78_13 ?_
    refine g_iand lk_78_14 ?_
    refine g_if (t := 22) lk_78_15 rfl (by first | (unfold pm_inI; omega) | exact pm_and_in _ _ | exact pm_shr_in _ _ | exact pm_or_in _ _ | exact pm_xor_in _ _ | exact pm_shl_in _ _ | exact pm_cmp_in _ _ | exact pm_b8_in _ | (unfold pm_inI; split <;> omega)) (fun h2 => ?_) (fun h2 => ?_)
    · replace h2 : (pm_and (pm_shr (f : Int) ((k : Int) - (c : Int))) 1) = 0 := h2
      refine g_iconst lk_78_22 ?_
      refine g_ireturn lk_78_23 (fun _ => by omega) ?_
      refine ⟨?_, rfl⟩
      rw [e (by omega)] at h2
      rw [if_neg (fun q => by rw [if_pos q.2] at h2; cases h2)]
    · replace h2 : ¬ ((pm_and (pm_shr (f : Int) ((k : Int) - (c : Int))) 1) = 0) := h2
      refine g_iconst lk_78_18 ?_
      refine g_goto (t := 23) lk_78_19 rfl ?_
      refine g_ireturn lk_78_23 (fun _ => by omega) ?_
      refine ⟨?_, rfl⟩
      rw [e (by omega)] at h2
      rw [if_pos ⟨by omega, Classical.byContradiction (fun q => h2 (by rw [if_neg q]))⟩]
