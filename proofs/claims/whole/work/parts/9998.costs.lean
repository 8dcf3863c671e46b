/-! ===== all rows, and costs, of a text, by the class ===== -/
theorem pStop_ok {ch : Nat → Nat} {n : Nat} {t t' : Tok} (hn : n ≤ 500) (hK : TkOK ch n t) (e : pStop ch n t = .inr t') : TkOK ch n t' ∧ t.2.1 < t'.2.1 := by
  unfold pStop at e
  by_cases a : t.1 = 3
  · rw [if_pos a] at e
    cases e
    obtain ⟨b1, b2⟩ := lxt_ok (ch := ch) hK.2.2.1 hn
    have := hK.2.2.2.2.1 (by omega)
    exact ⟨b1, by omega⟩
  · rw [if_neg a] at e; cases e
/-- a table of which r rows have been read -/
def RwOK (T : Tab) (r : Nat) : Prop := tR T = r ∧ tC T ≤ 6 ∧ (0 < r → 1 ≤ tC T) ∧ (∀ i, tX T i ≤ 10) ∧ (∀ i, i < 36 → (i / 6 < r ∧ i % 6 < tC T) ∨ tX T i = 10) ∧ tA T = 1 ∧ tB T = 1
theorem pRow_ok {ch : Nat → Nat} {n r : Nat} {T T' : Tab} {t t' : Tok} (hn : n ≤ 500) (hK : TkOK ch n t) (t2 : t.1 = 2) (h : RwOK T r) (e : pRow ch n r T t = .inr (T', t')) : TkOK ch n t' ∧ RwOK T' (r + 1) ∧ r < 6 ∧ t.2.1 < t'.2.1 := by
  obtain ⟨b1, b2, b3, b4, b5, b6, b7⟩ := h
  have six := (hK.2.2.2.2.2 (Or.inr t2)).1
  have lt := hK.2.2.2.2.1 (by omega)
  unfold pRow at e
  by_cases a : 0 < r ∧ ¬ t.2.2 - t.2.1 = tC T
  · rw [if_pos a] at e; cases e
  · rw [if_neg a] at e
    by_cases b : 6 ≤ r
    · rw [if_pos b] at e; cases e
    · rw [if_neg b] at e
      obtain ⟨uk, up⟩ := lxt_ok (ch := ch) hK.2.2.1 hn
      cases hp : pStop ch n (lxt ch n t.2.2) with
      | inl x => rw [hp] at e; cases e
      | inr x =>
        rw [hp] at e
        obtain ⟨s1, s2⟩ := pStop_ok hn uk hp
        cases e
        obtain ⟨z, hz⟩ : ∃ z, z = t.2.2 - t.2.1 := ⟨_, rfl⟩
        rw [← hz] at a ⊢
        refine ⟨s1, ⟨rfl, ?_, ?_, ?_, ?_, b6, b7⟩, by omega, by omega⟩
        · show z ≤ 6
          omega
        · intro _
          show 1 ≤ z
          omega
        · intro i
          show rowX ch T.2.2.1 r t.2.1 z i ≤ 10
          unfold rowX
          by_cases g : 6 * r ≤ i ∧ i < 6 * r + z
          · rw [if_pos g]
            have rc := run_ch hK t2 (i := t.2.1 + (i - 6 * r)) (by omega) (by omega)
            unfold cv
            by_cases g2 : ch (t.2.1 + (i - 6 * r)) = 46
            · rw [if_pos g2]; omega
            · rw [if_neg g2]; omega
          · rw [if_neg g]; exact b4 i
        · intro i hi
          show (i / 6 < r + 1 ∧ i % 6 < z) ∨ rowX ch T.2.2.1 r t.2.1 z i = 10
          unfold rowX
          by_cases g : 6 * r ≤ i ∧ i < 6 * r + z
          · exact Or.inl (by omega)
          · rw [if_neg g]
            rcases b5 i hi with k | k
            · exact Or.inl (by omega)
            · exact Or.inr k
theorem pRs_two {ch : Nat → Nat} {n f r : Nat} {T : Tab} {t : Tok} (h : t.1 = 2) {e : Nat × Nat} (hp : pRow ch n r T t = .inl e) : pRs ch n (f + 1) r T t = .inl e := by
  show (if _ then _ else _) = _
  rw [if_pos h, hp]
theorem pRs_on {ch : Nat → Nat} {n f r : Nat} {T T' : Tab} {t t' : Tok} (h : t.1 = 2) (hp : pRow ch n r T t = .inr (T', t')) : pRs ch n (f + 1) r T t = pRs ch n f (r + 1) T' t' := by
  show (if _ then _ else _) = _
  rw [if_pos h, hp]
theorem pRs_end {ch : Nat → Nat} {n f r : Nat} {T : Tab} {t : Tok} (h : ¬ t.1 = 2) : pRs ch n (f + 1) r T t = .inr (T, t) := by
  show (if _ then _ else _) = _
  rw [if_neg h]
theorem T00_ok : RwOK T00 0 := ⟨rfl, by decide, fun h => by omega, fun _ => Nat.le_refl _, fun _ _ => Or.inr rfl, rfl, rfl⟩
theorem c_Reader_readRows {d mc ms : Nat} {M : pm_M} (lay : Lay M) {n : Nat} {ch : Nat → Nat} (hM : TcX M n ch) {t : Tok} (hT : TkX M ch t) (hK : TkOK ch n t) (hB : TbAt M 4 T00) :
    pm_E (d + 4) 59 [(2, ((2 : Nat) : Int))] M mc ms (fun ρ M' => Lay M' ∧ RwF M M' ∧ ResX ρ M' (fun x => TkX M' ch x.2 ∧ TbAt M' 4 x.1 ∧ Sv M M') (pRows ch n t)) := by
  obtain ⟨Q, hQ⟩ : ∃ Q : pm_Q, Q = (fun ρ M' => Lay M' ∧ RwF M M' ∧ ResX ρ M' (fun x => TkX M' ch x.2 ∧ TbAt M' 4 x.1 ∧ Sv M M') (pRows ch n t)) := ⟨_, rfl⟩
  rw [← hQ]
  have n5 := hM.1
  have rf2 := c_Reader_refuse (d := d + 3) (mc := 0) (ms := 0) lay hT hK.1 (w := 2)
  have f10 := hT.1
  have t4 := hK.1
  show Wp (d + 4) 59 0 [(2, ((2 : Nat) : Int)), (9, 0)] [] M mc ms Q
  have loop : ∀ (f r : Nat) (K : pm_M) (T : Tab) (t' : Tok), r + f = 7 → Lay K → RwF M K → Sv M K → TkX K ch t' → TkOK ch n t' → TbAt K 4 T → RwOK T r → pRows ch n t = pRs ch n f r T t' → Wp (d + 4) 59 16 [(2, ((2 : Nat) : Int)), (0, (r : Int))] [] K mc ms Q := by
    intro f
    induction f with
    | zero =>
      intro r K T t' hr layK fK sK tk kk tb ro ep
      replace ep : pRows ch n t = .inr (T, t') := ep
      rw [ep] at hQ
      refine g_iload_n lk_59_16 rfl ?_
      refine g_bipush lk_59_17 ?_
      refine g_icmp (t := 46) lk_59_19 rfl (by first | (unfold pm_inI; omega) | exact pm_and_in _ _ | exact pm_shr_in _ _ | exact pm_or_in _ _ | exact pm_xor_in _ _ | exact pm_shl_in _ _ | exact pm_cmp_in _ _ | exact pm_b8_in _ | (unfold pm_inI; split <;> omega)) (by first | (unfold pm_inI; omega) | exact pm_and_in _ _ | exact pm_shr_in _ _ | exact pm_or_in _ _ | exact pm_xor_in _ _ | exact pm_shl_in _ _ | exact pm_cmp_in _ _ | exact pm_b8_in _ | (unfold pm_inI; split <;> omega)) (fun h1 => ?_) (fun h1 => ?_)
      · replace h1 : 6 < (r : Int) := h1
        refine g_iconst lk_59_46 ?_
        refine g_ireturn lk_59_47 (fun _ => by omega) ?_
        rw [hQ]
        exact ⟨layK, fK, rfl, tk, tb, sK⟩
      · replace h1 : ¬ (6 < (r : Int)) := h1
        omega
    | succ f ih =>
      intro r K T t' hr layK fK sK tk kk tb ro ep
      have f10K := tk.1
      have t4K := kk.1
      by_cases e : t'.1 = 2
      · have f10' : pm_ct K 2 10 = 2 := by rw [f10K, e]; rfl
        have rr := c_Reader_readRow (d := d) (mc := 0) (ms := 0) layK (fK.tc hM) tk kk e tb ro.2.1 (r := r) (by omega)
        cases hp : pRow ch n r T t' with
        | inl x =>
          rw [pRs_two e hp] at ep
          rw [hp] at rr
          rw [ep] at hQ
          clear ih
          refine g_iload_n lk_59_16 rfl ?_
          refine g_bipush lk_59_17 ?_
          refine g_icmp (t := 46) lk_59_19 rfl (by first | (unfold pm_inI; omega) | exact pm_and_in _ _ | exact pm_shr_in _ _ | exact pm_or_in _ _ | exact pm_xor_in _ _ | exact pm_shl_in _ _ | exact pm_cmp_in _ _ | exact pm_b8_in _ | (unfold pm_inI; split <;> omega)) (by first | (unfold pm_inI; omega) | exact pm_and_in _ _ | exact pm_shr_in _ _ | exact pm_or_in _ _ | exact pm_xor_in _ _ | exact pm_shl_in _ _ | exact pm_cmp_in _ _ | exact pm_b8_in _ | (unfold pm_inI; split <;> omega)) (fun h1 => ?_) (fun h1 => ?_)
          · replace h1 : 6 < (r : Int) := h1
            omega
          · replace h1 : ¬ (6 < (r : Int)) := h1
            refine g_aload_n lk_59_22 rfl ?_
            refine m_getfield (u := []) (M := K) lk_59_23 rfl (layK.on (by decide) rfl) (v := 2) f10' ?_
            refine g_iconst lk_59_26 ?_
            refine g_icmp (t := 46) lk_59_27 rfl (by first | (unfold pm_inI; omega) | exact pm_and_in _ _ | exact pm_shr_in _ _ | exact pm_or_in _ _ | exact pm_xor_in _ _ | exact pm_shl_in _ _ | exact pm_cmp_in _ _ | exact pm_b8_in _ | (unfold pm_inI; split <;> omega)) (by first | (unfold pm_inI; omega) | exact pm_and_in _ _ | exact pm_shr_in _ _ | exact pm_or_in _ _ | exact pm_xor_in _ _ | exact pm_shl_in _ _ | exact pm_cmp_in _ _ | exact pm_b8_in _ | (unfold pm_inI; split <;> omega)) (fun h => absurd h (show ¬ (¬ (2 : Int) = (2 : Int)) by omega)) (fun _ => ?_)
            refine g_aload_n lk_59_30 rfl ?_
            refine g_iload_n lk_59_31 rfl ?_
            refine g_virtual (p := 2) (Qc := _) lk_59_32 rfl (Nat.le_of_ble_eq_true rfl) rfl rfl (layK.on (by decide) rfl) (Nat.le_of_ble_eq_true rfl) (Nat.le_of_ble_eq_true rfl) (Nat.zero_le _) (Nat.zero_le _) (rr) ?_
            rintro _ K1 ⟨lay1, fr1, rfl, ft1⟩
            show Wp _ 59 35 [(2, ((2 : Nat) : Int)), (0, (r : Int))] [(0, 0)] K1 _ _ _
            refine g_if (t := 40) lk_59_35 rfl (by first | (unfold pm_inI; omega) | exact pm_and_in _ _ | exact pm_shr_in _ _ | exact pm_or_in _ _ | exact pm_xor_in _ _ | exact pm_shl_in _ _ | exact pm_cmp_in _ _ | exact pm_b8_in _ | (unfold pm_inI; split <;> omega)) (fun h => absurd h (show ¬ (¬ (0 : Int) = (0 : Int)) by omega)) (fun _ => ?_)
            refine g_iconst lk_59_38 ?_
            refine g_ireturn lk_59_39 (fun _ => by omega) ?_
            rw [hQ]
            exact ⟨lay1, fK.trans fr1, rfl, ft1⟩
        | inr y =>
          obtain ⟨T', t''⟩ := y
          obtain ⟨o1, o2, o3, _⟩ := pRow_ok n5 kk e ro hp
          rw [pRs_on e hp] at ep
          rw [hp] at rr
          have nx := fun K1 l1 g1 g0 g2 g3 => ih (r + 1) K1 T' t'' (by omega) l1 g1 g0 g2 o1 g3 o2 ep
          clear ih
          refine g_iload_n lk_59_16 rfl ?_
          refine g_bipush lk_59_17 ?_
          refine g_icmp (t := 46) lk_59_19 rfl (by first | (unfold pm_inI; omega) | exact pm_and_in _ _ | exact pm_shr_in _ _ | exact pm_or_in _ _ | exact pm_xor_in _ _ | exact pm_shl_in _ _ | exact pm_cmp_in _ _ | exact pm_b8_in _ | (unfold pm_inI; split <;> omega)) (by first | (unfold pm_inI; omega) | exact pm_and_in _ _ | exact pm_shr_in _ _ | exact pm_or_in _ _ | exact pm_xor_in _ _ | exact pm_shl_in _ _ | exact pm_cmp_in _ _ | exact pm_b8_in _ | (unfold pm_inI; split <;> omega)) (fun h1 => ?_) (fun h1 => ?_)
          · replace h1 : 6 < (r : Int) := h1
            omega
          · replace h1 : ¬ (6 < (r : Int)) := h1
            refine g_aload_n lk_59_22 rfl ?_
            refine m_getfield (u := []) (M := K) lk_59_23 rfl (layK.on (by decide) rfl) (v := 2) f10' ?_
            refine g_iconst lk_59_26 ?_
            refine g_icmp (t := 46) lk_59_27 rfl (by first | (unfold pm_inI; omega) | exact pm_and_in _ _ | exact pm_shr_in _ _ | exact pm_or_in _ _ | exact pm_xor_in _ _ | exact pm_shl_in _ _ | exact pm_cmp_in _ _ | exact pm_b8_in _ | (unfold pm_inI; split <;> omega)) (by first | (unfold pm_inI; omega) | exact pm_and_in _ _ | exact pm_shr_in _ _ | exact pm_or_in _ _ | exact pm_xor_in _ _ | exact pm_shl_in _ _ | exact pm_cmp_in _ _ | exact pm_b8_in _ | (unfold pm_inI; split <;> omega)) (fun h => absurd h (show ¬ (¬ (2 : Int) = (2 : Int)) by omega)) (fun _ => ?_)
            refine g_aload_n lk_59_30 rfl ?_
            refine g_iload_n lk_59_31 rfl ?_
            refine g_virtual (p := 2) (Qc := _) lk_59_32 rfl (Nat.le_of_ble_eq_true rfl) rfl rfl (layK.on (by decide) rfl) (Nat.le_of_ble_eq_true rfl) (Nat.le_of_ble_eq_true rfl) (Nat.zero_le _) (Nat.zero_le _) (rr) ?_
            rintro _ K1 ⟨lay1, fr1, rfl, tk1, tb1, sv1⟩
            show Wp _ 59 35 [(2, ((2 : Nat) : Int)), (0, (r : Int))] [(0, 1)] K1 _ _ _
            refine g_if (t := 40) lk_59_35 rfl (by first | (unfold pm_inI; omega) | exact pm_and_in _ _ | exact pm_shr_in _ _ | exact pm_or_in _ _ | exact pm_xor_in _ _ | exact pm_shl_in _ _ | exact pm_cmp_in _ _ | exact pm_b8_in _ | (unfold pm_inI; split <;> omega)) (fun _ => ?_) (fun h => absurd (show ¬ (1 : Int) = (0 : Int) by omega) h)
            refine g_iinc (ls' := [(2, ((2 : Nat) : Int)), (0, ((r : Int) + 1))]) lk_59_40 rfl rfl rfl ?_
            refine g_goto (t := 16) lk_59_43 rfl ?_
            exact nx K1 lay1 (fK.trans fr1) (sK.trans sv1) tk1 tb1
      · rw [pRs_end e] at ep
        rw [ep] at hQ
        obtain ⟨w, hw⟩ : ∃ w, w = t'.1 := ⟨_, rfl⟩
        rw [← hw] at f10K t4K e
        clear ih
        refine g_iload_n lk_59_16 rfl ?_
        refine g_bipush lk_59_17 ?_
        refine g_icmp (t := 46) lk_59_19 rfl (by first | (unfold pm_inI; omega) | exact pm_and_in _ _ | exact pm_shr_in _ _ | exact pm_or_in _ _ | exact pm_xor_in _ _ | exact pm_shl_in _ _ | exact pm_cmp_in _ _ | exact pm_b8_in _ | (unfold pm_inI; split <;> omega)) (by first | (unfold pm_inI; omega) | exact pm_and_in _ _ | exact pm_shr_in _ _ | exact pm_or_in _ _ | exact pm_xor_in _ _ | exact pm_shl_in _ _ | exact pm_cmp_in _ _ | exact pm_b8_in _ | (unfold pm_inI; split <;> omega)) (fun h1 => ?_) (fun h1 => ?_)
        · replace h1 : 6 < (r : Int) := h1
          refine g_iconst lk_59_46 ?_
          refine g_ireturn lk_59_47 (fun _ => by omega) ?_
          rw [hQ]
          exact ⟨layK, fK, rfl, tk, tb, sK⟩
        · replace h1 : ¬ (6 < (r : Int)) := h1
          refine g_aload_n lk_59_22 rfl ?_
          refine m_getfield (u := []) (M := K) lk_59_23 rfl (layK.on (by decide) rfl) (v := (w : Int)) f10K ?_
          refine g_iconst lk_59_26 ?_
          refine g_icmp (t := 46) lk_59_27 rfl (by first | (unfold pm_inI; omega) | exact pm_and_in _ _ | exact pm_shr_in _ _ | exact pm_or_in _ _ | exact pm_xor_in _ _ | exact pm_shl_in _ _ | exact pm_cmp_in _ _ | exact pm_b8_in _ | (unfold pm_inI; split <;> omega)) (by first | (unfold pm_inI; omega) | exact pm_and_in _ _ | exact pm_shr_in _ _ | exact pm_or_in _ _ | exact pm_xor_in _ _ | exact pm_shl_in _ _ | exact pm_cmp_in _ _ | exact pm_b8_in _ | (unfold pm_inI; split <;> omega)) (fun h2 => ?_) (fun h2 => ?_)
          · replace h2 : ¬ (w : Int) = 2 := h2
            refine g_iconst lk_59_46 ?_
            refine g_ireturn lk_59_47 (fun _ => by omega) ?_
            rw [hQ]
            exact ⟨layK, fK, rfl, tk, tb, sK⟩
          · replace h2 : ¬ (¬ (w : Int) = 2) := h2
            omega
  by_cases e : t.1 = 2
  · have f10' : pm_ct M 2 10 = 2 := by rw [f10, e]; rfl
    have st := loop 7 0 M T00 t (by omega) lay (RwF.refl M) (Sv.refl M) hT hK hB T00_ok (by unfold pRows; rw [if_pos e])
    refine g_aload_n lk_59_0 rfl ?_
    refine m_getfield (u := []) (M := M) lk_59_1 rfl (lay.on (by decide) rfl) (v := 2) f10' ?_
    refine g_iconst lk_59_4 ?_
    refine g_icmp (t := 14) lk_59_5 rfl (by first | (unfold pm_inI; omega) | exact pm_and_in _ _ | exact pm_shr_in _ _ | exact pm_or_in _ _ | exact pm_xor_in _ _ | exact pm_shl_in _ _ | exact pm_cmp_in _ _ | exact pm_b8_in _ | (unfold pm_inI; split <;> omega)) (by first | (unfold pm_inI; omega) | exact pm_and_in _ _ | exact pm_shr_in _ _ | exact pm_or_in _ _ | exact pm_xor_in _ _ | exact pm_shl_in _ _ | exact pm_cmp_in _ _ | exact pm_b8_in _ | (unfold pm_inI; split <;> omega)) (fun _ => ?_) (fun h => absurd (show (2 : Int) = (2 : Int) by omega) h)
    refine g_iconst lk_59_14 ?_
    refine g_istore_n (ls' := [(2, ((2 : Nat) : Int)), (0, 0)]) lk_59_15 rfl rfl ?_
    exact st
  · have ep : pRows ch n t = .inl (flt 2 t) := by unfold pRows; rw [if_neg e]
    rw [ep] at hQ
    obtain ⟨w, hw⟩ : ∃ w, w = t.1 := ⟨_, rfl⟩
    rw [← hw] at f10 t4 e
    refine g_aload_n lk_59_0 rfl ?_
    refine m_getfield (u := []) (M := M) lk_59_1 rfl (lay.on (by decide) rfl) (v := (w : Int)) f10 ?_
    refine g_iconst lk_59_4 ?_
    refine g_icmp (t := 14) lk_59_5 rfl (by first | (unfold pm_inI; omega) | exact pm_and_in _ _ | exact pm_shr_in _ _ | exact pm_or_in _ _ | exact pm_xor_in _ _ | exact pm_shl_in _ _ | exact pm_cmp_in _ _ | exact pm_b8_in _ | (unfold pm_inI; split <;> omega)) (by first | (unfold pm_inI; omega) | exact pm_and_in _ _ | exact pm_shr_in _ _ | exact pm_or_in _ _ | exact pm_xor_in _ _ | exact pm_shl_in _ _ | exact pm_cmp_in _ _ | exact pm_b8_in _ | (unfold pm_inI; split <;> omega)) (fun h1 => ?_) (fun h1 => ?_)
    · replace h1 : (w : Int) = 2 := h1
      omega
    · replace h1 : ¬ ((w : Int) = 2) := h1
      refine g_aload_n lk_59_8 rfl ?_
      refine g_iconst lk_59_9 ?_
      refine g_virtual (p := 2) (Qc := _) lk_59_10 rfl (Nat.le_of_ble_eq_true rfl) rfl rfl (lay.on (by decide) rfl) (Nat.le_of_ble_eq_true rfl) (Nat.le_of_ble_eq_true rfl) (Nat.zero_le _) (Nat.zero_le _) (rf2) ?_
      rintro _ K1 ⟨rfl, lay1, re1, ft1⟩
      show Wp _ 59 13 [(2, ((2 : Nat) : Int)), (9, 0)] [(0, 0)] K1 _ _ _
      refine g_ireturn lk_59_13 (fun _ => by omega) ?_
      rw [hQ]
      exact ⟨lay1, re1.rw, rfl, ft1⟩
def pCost (ch : Nat → Nat) (n : Nat) (T : Tab) (w : Nat) (t : Tok) : Sum (Nat × Nat) (Tab × Tok) :=
  if t.1 = 1 ∧ twd ch t = wCost ∧ w = 0 then
    (match pNum ch 1 (lxt ch n t.2.2) with
    | .inl e => .inl e
    | .inr a =>
      (match pNum ch 1 (lxt ch n (lxt ch n t.2.2).2.2) with
      | .inl e => .inl e
      | .inr b =>
        (match pStop ch n (lxt ch n (lxt ch n (lxt ch n t.2.2).2.2).2.2) with
        | .inl e => .inl e
        | .inr t' => .inr ((tR T, tC T, T.2.2.1, a, b), t'))))
  else .inl (flt 2 t)
/-- what reading a line of costs may change -/
def CoF (M N : pm_M) : Prop := Fr [2, 4, 5] M N ∧ ∀ k, k ∉ [6, 7, 8, 9, 10, 11, 12, 13] → pm_ct N 2 k = pm_ct M 2 k
theorem CoF.trans {M N K : pm_M} (h : CoF M N) (k : CoF N K) : CoF M K := ⟨h.1.trans k.1, fun j hj => (k.2 j hj).trans (h.2 j hj)⟩
theorem RwF.co {M N : pm_M} (h : RwF M N) : CoF M N := ⟨h.1, fun k hk => h.2 k (fun q => hk (by simp at q ⊢; omega))⟩
