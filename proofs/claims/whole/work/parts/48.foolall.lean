/-! ===== fooling, fools: the class ===== -/
def BestK (f : Nat → Nat → Bool) (l q : List Nat) : Prop := IsK f l q ∧ ∀ q', IsK f l q' → q'.length ≤ q.length ∧ (q'.length = q.length → lx q q')
theorem BestK_uniq {f : Nat → Nat → Bool} {l q q' : List Nat} (h : BestK f l q) (k : BestK f l q') : q = q' := by
  have h1 := h.2 q' k.1
  have h2 := k.2 q h.1
  exact lx_anti (h1.2 (by omega)) (h2.2 (by omega)) (by omega)
noncomputable def bK (T : Tab) (v : Nat) : List Nat := Classical.epsilon (BestK (fo T v) (fc T v))
theorem bK_eq {T : Tab} {v : Nat} {q : List Nat} (h : BestK (fo T v) (fc T v) q) : q = bK T v := BestK_uniq h (Classical.epsilon_spec ⟨q, h⟩)
theorem Rs_best {f : Nat → Nat → Bool} {l X : List Nat} {t : Nat} (h : Rs (IsK f l) [] 0 [] t X) (hX : X.length = t) : BestK f l X := by
  obtain ⟨h1, h2, h3, h4⟩ := h
  by_cases ht : t = 0
  · rw [h3 ht]
    refine ⟨IsK_nil f l, fun q hq => ⟨?_, fun _ => trivial⟩⟩
    have := h2 q hq
    have e : ([] : List Nat).length = 0 := rfl
    omega
  · obtain ⟨q, a1, a2, a3, a4⟩ := h4 (by omega)
    rw [a3, List.nil_append]
    rw [a3, List.nil_append] at hX
    have e : ([] : List Nat).length = 0 := rfl
    refine ⟨a1, fun q' hq => ⟨?_, fun c => a4 q' hq (by omega)⟩⟩
    have := h2 q' hq
    omega
theorem pm_all {n : Nat} (hn : n ≤ 36) : pm_shlL 1 (n : Int) - 1 = ((2 ^ n - 1 : Nat) : Int) := by
  have h := p36 hn
  have h1 : 1 ≤ 2 ^ n := Nat.one_le_two_pow
  have h2 := pm_shlL_n (a := 1) (k := n) (by omega) (by omega)
  rw [Nat.one_mul] at h2
  rw [show ((1 : Nat) : Int) = 1 from rfl] at h2
  rw [h2]; omega
theorem c_Fools_everyCell {d mc ms : Nat} {M : pm_M} (lay : Lay M) {n : Nat} (hn : n ≤ 36) (h5 : pm_ct M 34 5 = (n : Int)) :
    pm_E d 22 [(2, ((34 : Nat) : Int))] M mc ms (fun ρ M' => ρ = some (1, ((2 ^ n - 1 : Nat) : Int)) ∧ M' = M) := by
  show Wp d 22 0 [(2, ((34 : Nat) : Int))] [] M mc ms _
  refine g_lconst lk_22_0 ?_
  refine g_aload_n lk_22_1 rfl ?_
  refine m_getfield (u := []) (M := M) lk_22_2 rfl (lay.on (by decide) rfl) (v := (n : Int)) h5 ?_
  refine g_lshl lk_22_5 ?_
  refine g_lconst lk_22_6 ?_
  refine g_lsub lk_22_7 ?_
  refine g_lreturn lk_22_8 ?_
  exact ⟨congrArg (fun z => some (1, z)) (pm_all hn), rfl⟩
theorem lsx_every (l : List Nat) : lsx (2 ^ l.length - 1) 0 l = l := lsx_all l 0 (fun j hj => by rw [ones_bit]; simp; omega)
set_option maxHeartbeats 4000000 in
theorem c_Fools_findGreatest {d mc ms : Nat} {M : pm_M} (lay0 : Lay M) {T : Tab} (hT : TabOK T) {v : Nat} (hFo : FoAt M T v) :
    pm_E (d + 8) 23 [(2, ((34 : Nat) : Int))] M mc ms (fun ρ M' => ρ = none ∧ Lay M' ∧ Fr [34, 37, 38] M M' ∧ FoAt M' T v ∧ pm_ct M' 34 6 = ((bK T v).length : Int) ∧ (bK T v).length ≤ 6 ∧ PhAt M' 38 (fc T v) (bK T v) ∧ BestK (fo T v) (fc T v) (bK T v)) := by
  obtain ⟨Q, hQ⟩ : ∃ Q : pm_Q, Q = (fun ρ M' => ρ = none ∧ Lay M' ∧ Fr [34, 37, 38] M M' ∧ FoAt M' T v ∧ pm_ct M' 34 6 = ((bK T v).length : Int) ∧ (bK T v).length ≤ 6 ∧ PhAt M' 38 (fc T v) (bK T v) ∧ BestK (fo T v) (fc T v) (bK T v)) := ⟨_, rfl⟩
  rw [← hQ]
  have c5 := hFo.1.1
  have L36 := fc_len hT v
  obtain ⟨n, hn⟩ : ∃ n, n = (fc T v).length := ⟨_, rfl⟩
  rw [← hn] at c5 L36
  have ev : lsx (2 ^ n - 1) 0 (fc T v) = fc T v := by rw [hn]; exact lsx_every _
  have m36 : 2 ^ n - 1 < 68719476736 := by have := p36 L36; have : 1 ≤ 2 ^ n := Nat.one_le_two_pow; omega
  show Wp (d + 8) 23 0 [(2, ((34 : Nat) : Int))] [] M mc ms Q
  refine g_aload_n lk_23_0 rfl ?_
  refine g_iconst lk_23_1 ?_
  have lay1 : Lay (Mu [(34, pm_upd (pm_ct M 34) 6 0)] M) := lay0.muF (l := []) (a := 34) (k := 6) (z := 0) rfl rfl
  refine m_putfield (u := []) (u' := [(34, pm_upd (pm_ct M 34) 6 0)]) (M := M) lk_23_2 rfl (lay0.on (by decide) rfl) (fun h => absurd h (by decide)) rfl ?_
  refine g_aload_n lk_23_5 rfl ?_
  refine g_aload_n lk_23_6 rfl ?_
  refine g_virtual (p := 34) (Qc := _) lk_23_7 rfl (Nat.le_of_ble_eq_true rfl) rfl rfl (lay1.on (by decide) rfl) (Nat.le_of_ble_eq_true rfl) (Nat.le_of_ble_eq_true rfl) (Nat.zero_le _) (Nat.zero_le _) (c_Fools_everyCell lay1 L36 (by rw [Mu_ct]; exact c5)) ?_
  rintro _ N2 ⟨rfl, hN2⟩
  rw [hN2]
  show Wp _ 23 10 [(2, ((34 : Nat) : Int))] [(1, ((2 ^ n - 1 : Nat) : Int)), (2, ((34 : Nat) : Int))] (Mu [(34, pm_upd (pm_ct M 34) 6 0)] M) _ _ _
  refine g_iconst lk_23_10 ?_
  refine g_virtual (p := 34) (Qc := _) lk_23_11 rfl (Nat.le_of_ble_eq_true rfl) rfl rfl (lay1.on (by decide) rfl) (Nat.le_of_ble_eq_true rfl) (Nat.le_of_ble_eq_true rfl) (Nat.zero_le _) (Nat.zero_le _) (c_Fools_lengthen hT (v := v) 6 d 0 0 0 (2 ^ n - 1) 0 (Mu [(34, pm_upd (pm_ct M 34) 6 0)] M) [] [] rfl lay1 (hFo.of (by rw [Mu_ct]; rfl) (by rw [Mu_ct]; rfl) (by rw [Mu_ct]; rfl)) m36 rfl (fun j x h => by cases h) (by rw [Mu_ct]; rfl) rfl (by omega) (fun j x h => by cases h) (fun q hq => ?_)) ?_
  · rw [ev] at hq
    have := IsK_6 hT hq
    omega
  · rintro _ N' ⟨rfl, lay', hF', hFo2, -, t2, X2, g6, gX, gt, gXh, gR⟩
    rw [ev] at gR
    have gb := Rs_best gR gX
    have e := bK_eq gb
    rw [e] at gX gXh gb
    refine g_return lk_23_14 ?_
    rw [hQ]
    exact ⟨rfl, lay', (Fr.mu _ _ rfl).trans hF', hFo2, by rw [gX]; exact g6, by omega, gXh, gb⟩
theorem Cx_0 {f : Nat → Nat → Bool} {g : List Nat → Nat} {n : Nat} (hg : ∀ l, l.length < n → g l = 0) : ∀ l : List Nat, l.length < n + 1 → Cx f g l = 0
  | [], _ => rfl
  | x :: l, h => by
    rw [List.length_cons] at h
    show g (l.filter (f x)) + Cx f g l = 0
    rw [hg _ (Nat.lt_of_le_of_lt (List.length_filter_le _ _) (by omega)), Cx_0 hg l (by omega)]
theorem CC_0 {f : Nat → Nat → Bool} : ∀ (n : Nat) (l : List Nat), l.length < n → CC f n l = 0
  | 0, _, h => absurd h (Nat.not_lt_zero _)
  | n + 1, l, h => Cx_0 (fun l hl => CC_0 n l hl) l h
theorem CC_1 (f : Nat → Nat → Bool) : ∀ l : List Nat, CC f 1 l = l.length
  | [] => rfl
  | x :: l => by
    show 1 + CC f 1 l = _
    rw [CC_1 f l, List.length_cons]; omega
theorem lsx_cnt {m : Nat} (hm : m < 68719476736) : ∀ (l : List Nat) (i : Nat), m < 2 ^ (i + l.length) → (lsx m i l).length = popL (m / 2 ^ i)
  | [], i, h => by rw [Nat.div_eq_of_lt (by simpa using h)]; exact popL_z.symm
  | x :: l, i, h => by
    have ih := lsx_cnt hm l (i + 1) (by rw [List.length_cons] at h; rw [show i + 1 + l.length = i + (l.length + 1) by omega]; exact h)
    rw [lsx_c, popL_s hm]
    unfold bt
    split
    · rw [List.length_cons]; omega
    · omega
set_option maxHeartbeats 8000000 in
theorem c_Fools_countFrom {T : Tab} (hT : TabOK T) {v : Nat} : ∀ (n d mc ms m : Nat) (M : pm_M), n < 6 → Lay M → FoAt M T v → m < 2 ^ (fc T v).length →
    pm_E (d + n + 1) 26 [(2, ((34 : Nat) : Int)), (1, (m : Int)), (0, ((n + 1 : Nat) : Int))] M mc ms (fun ρ M' => ρ = some (0, (CC (fo T v) (n + 1) (lsx m 0 (fc T v)) : Int)) ∧ M' = M) := by
  obtain ⟨L, hL⟩ : ∃ L, L = fc T v := ⟨_, rfl⟩
  have L36 : L.length ≤ 36 := by rw [hL]; exact fc_len hT v
  rw [← hL]
  intro n
  induction n with
  | zero =>
    intro d mc ms m M hn lay hFo hm
    have m36 : m < 68719476736 := Nat.lt_of_lt_of_le hm (p36 L36)
    have e := lsx_cnt m36 L 0 (by rw [Nat.zero_add]; exact hm)
    rw [show (2 : Nat) ^ 0 = 1 from rfl, Nat.div_one] at e
    show Wp (d + 0 + 1) 26 0 [(2, ((34 : Nat) : Int)), (1, (m : Int)), (9, 0), (0, 1), (9, 0), (9, 0)] [] M mc ms _
    refine g_iload_n lk_26_0 rfl ?_
    refine g_iconst lk_26_1 ?_
    refine g_icmp (t := 11) lk_26_2 rfl (by first | (unfold pm_inI; omega) | exact pm_and_in _ _ | exact pm_shr_in _ _ | exact pm_or_in _ _ | exact pm_xor_in _ _ | exact pm_shl_in _ _ | exact pm_cmp_in _ _ | exact pm_b8_in _ | (unfold pm_inI; split <;> omega)) (by first | (unfold pm_inI; omega) | exact pm_and_in _ _ | exact pm_shr_in _ _ | exact pm_or_in _ _ | exact pm_xor_in _ _ | exact pm_shl_in _ _ | exact pm_cmp_in _ _ | exact pm_b8_in _ | (unfold pm_inI; split <;> omega)) (fun _ => ?_) (fun h => absurd (show (1 : Int) ≤ (1 : Int) by omega) h)
    refine g_lload_n lk_26_11 rfl ?_
    refine g_static (Qc := _) lk_26_12 (by decide) rfl (Nat.le_of_ble_eq_true rfl) rfl rfl (Nat.le_of_ble_eq_true rfl) (Nat.le_of_ble_eq_true rfl) (Nat.zero_le _) (Nat.zero_le _) (c_Long_bitCount m36) ?_
    rintro _ N1 ⟨rfl, hN1⟩
    rw [hN1]
    show Wp _ 26 15 [(2, ((34 : Nat) : Int)), (1, (m : Int)), (9, 0), (0, 1), (9, 0), (9, 0)] [(0, (popL m : Int))] M _ _ _
    refine g_ireturn lk_26_15 (fun h => absurd h (by decide)) ?_
    refine ⟨?_, rfl⟩
    rw [CC_1, e]
  | succ n ihn =>
    intro d mc ms m M hn lay hFo hm
    have m36 : m < 68719476736 := Nat.lt_of_lt_of_le hm (p36 L36)
    obtain ⟨Q, hQ⟩ : ∃ Q : pm_Q, Q = (fun ρ M' => ρ = some (0, (CC (fo T v) (n + 1 + 1) (lsx m 0 L) : Int)) ∧ M' = M) := ⟨_, rfl⟩
    rw [← hQ]
    obtain ⟨w, hw⟩ : ∃ w, w = n + 1 + 1 := ⟨_, rfl⟩
    have c5 := hFo.1.1
    rw [← hL] at c5
    have main : ∀ (l pre : List Nat) (sum : Nat), L = pre ++ l → sum + Cx (fo T v) (CC (fo T v) (n + 1)) (lsx m pre.length l) = CC (fo T v) (n + 1 + 1) (lsx m 0 L) → Wp (d + (n + 1) + 1) 26 22 [(2, ((34 : Nat) : Int)), (1, (m : Int)), (9, 0), (0, (w : Int)), (0, (sum : Int)), (0, (pre.length : Int))] [] M mc ms Q := by
      intro l
      induction l with
      | nil =>
        intro pre sum hl hs
        have eL : L.length = pre.length := by rw [hl, List.append_nil]
        obtain ⟨i, hi⟩ : ∃ i, i = pre.length := ⟨_, rfl⟩
        rw [← hi]
        refine g_iload lk_26_22 rfl ?_
        refine g_aload_n lk_26_24 rfl ?_
        refine m_getfield (u := []) (M := M) lk_26_25 rfl (lay.on (by decide) rfl) (v := (L.length : Int)) c5 ?_
        refine g_icmp (t := 80) lk_26_28 rfl (by first | (unfold pm_inI; omega) | exact pm_and_in _ _ | exact pm_shr_in _ _ | exact pm_or_in _ _ | exact pm_xor_in _ _ | exact pm_shl_in _ _ | exact pm_cmp_in _ _ | exact pm_b8_in _ | (unfold pm_inI; split <;> omega)) (by first | (unfold pm_inI; omega) | exact pm_and_in _ _ | exact pm_shr_in _ _ | exact pm_or_in _ _ | exact pm_xor_in _ _ | exact pm_shl_in _ _ | exact pm_cmp_in _ _ | exact pm_b8_in _ | (unfold pm_inI; split <;> omega)) (fun h1 => ?_) (fun h1 => ?_)
        · replace h1 : (L.length : Int) ≤ (i : Int) := h1
          refine g_iload lk_26_80 rfl ?_
          refine g_ireturn lk_26_82 (fun h => absurd h (by decide)) ?_
          rw [hQ]
          refine ⟨?_, rfl⟩
          rw [← hs]; rfl
        · replace h1 : ¬ ((L.length : Int) ≤ (i : Int)) := h1
          omega
      | cons x l ihl =>
        intro pre sum hl hs
        have eL : L.length = pre.length + (l.length + 1) := by rw [hl, List.length_append, List.length_cons]
        have tk := lsx_take (T := T) (v := v) (m := m) hl
        have nx := fun s => ihl (pre ++ [x]) s (by rw [hl]; simp)
        rw [List.length_append] at nx
        obtain ⟨i, hi⟩ : ∃ i, i = pre.length := ⟨_, rfl⟩
        rw [← hi] at hs tk nx ⊢
        have nx : ∀ s : Nat, s + Cx (fo T v) (CC (fo T v) (n + 1)) (lsx m (i + 1) l) = CC (fo T v) (n + 1 + 1) (lsx m 0 L) → Wp (d + (n + 1) + 1) 26 22 [(2, ((34 : Nat) : Int)), (1, (m : Int)), (9, 0), (0, (w : Int)), (0, (s : Int)), (0, ((i + 1 : Nat) : Int))] [] M mc ms Q := nx
        have p36' := hFo.2 i (by rw [← hL]; omega)
        rw [← hL] at p36'
        obtain ⟨pt, hpt⟩ : ∃ pt, pt = ptm T v L i L.length := ⟨_, rfl⟩
        rw [← hpt] at p36' tk
        obtain ⟨u, hu⟩ : ∃ u, u = m / 2 ^ i := ⟨_, rfl⟩
        have u36 : u < 68719476736 := by rw [hu]; exact Nat.lt_of_le_of_lt (Nat.div_le_self _ _) m36
        have e1 : pm_shrL (m : Int) (i : Int) = (u : Int) := by rw [hu]; exact pm_shrL_n (by omega) (by omega)
        have e2 : pm_andL (u : Int) 1 = (bt m i : Int) := by rw [hu]; exact pm_bitL m36
        obtain ⟨b, hb⟩ : ∃ b, b = bt m i := ⟨_, rfl⟩
        have e3 : pm_cmp (pm_wL (b : Int)) (pm_wL 0) = (b : Int) := by rw [hb]; exact pm_cmpB m i
        rw [← hb] at e2
        have b1 : b ≤ 1 := by rw [hb]; exact bt_1 m i
        have e4 : pm_andL (m : Int) (pt : Int) = ((m &&& pt : Nat) : Int) := pm_andL_n (by omega)
        have pu : popL u ≤ 36 := by
          unfold popL
          exact Nat.le_trans (sm_le (g := fun _ => 1) (fun j _ => bt_1 u j)) (by decide)
        have ll := lsx_len m36 (x :: l) i
        rw [← hu] at ll
        have lc := lsx_c m i x l
        refine g_iload lk_26_22 rfl ?_
        refine g_aload_n lk_26_24 rfl ?_
        refine m_getfield (u := []) (M := M) lk_26_25 rfl (lay.on (by decide) rfl) (v := (L.length : Int)) c5 ?_
        refine g_icmp (t := 80) lk_26_28 rfl (by first | (unfold pm_inI; omega) | exact pm_and_in _ _ | exact pm_shr_in _ _ | exact pm_or_in _ _ | exact pm_xor_in _ _ | exact pm_shl_in _ _ | exact pm_cmp_in _ _ | exact pm_b8_in _ | (unfold pm_inI; split <;> omega)) (by first | (unfold pm_inI; omega) | exact pm_and_in _ _ | exact pm_shr_in _ _ | exact pm_or_in _ _ | exact pm_xor_in _ _ | exact pm_shl_in _ _ | exact pm_cmp_in _ _ | exact pm_b8_in _ | (unfold pm_inI; split <;> omega)) (fun h1 => ?_) (fun h1 => ?_)
        · replace h1 : (L.length : Int) ≤ (i : Int) := h1
          refine g_iload lk_26_80 rfl ?_
          refine g_ireturn lk_26_82 (fun h => absurd h (by decide)) ?_
          omega
        · replace h1 : ¬ ((L.length : Int) ≤ (i : Int)) := h1
          refine g_lload_n lk_26_31 rfl ?_
          refine g_iload lk_26_32 rfl ?_
          refine g_lshr lk_26_34 ?_
          refine g_top (z := (pm_shrL (m : Int) (i : Int))) (z' := (u : Int)) (e1) ?_
          refine g_static (Qc := _) lk_26_35 (by decide) rfl (Nat.le_of_ble_eq_true rfl) rfl rfl (Nat.le_of_ble_eq_true rfl) (Nat.le_of_ble_eq_true rfl) (Nat.zero_le _) (Nat.zero_le _) (c_Long_bitCount u36) ?_
          rintro _ N2 ⟨rfl, hN2⟩
          rw [hN2]
          show Wp _ 26 38 [(2, ((34 : Nat) : Int)), (1, (m : Int)), (9, 0), (0, (w : Int)), (0, (sum : Int)), (0, (i : Int))] [(0, (popL u : Int))] M _ _ _
          refine g_iload_n lk_26_38 rfl ?_
          refine g_icmp (t := 80) lk_26_39 rfl (by first | (unfold pm_inI; omega) | exact pm_and_in _ _ | exact pm_shr_in _ _ | exact pm_or_in _ _ | exact pm_xor_in _ _ | exact pm_shl_in _ _ | exact pm_cmp_in _ _ | exact pm_b8_in _ | (unfold pm_inI; split <;> omega)) (by first | (unfold pm_inI; omega) | exact pm_and_in _ _ | exact pm_shr_in _ _ | exact pm_or_in _ _ | exact pm_xor_in _ _ | exact pm_shl_in _ _ | exact pm_cmp_in _ _ | exact pm_b8_in _ | (unfold pm_inI; split <;> omega)) (fun h3 => ?_) (fun h3 => ?_)
          · replace h3 : (popL u : Int) < (w : Int) := h3
            refine g_iload lk_26_80 rfl ?_
            refine g_ireturn lk_26_82 (fun h => absurd h (by decide)) ?_
            rw [hQ]
            refine ⟨?_, rfl⟩
            rw [Cx_0 (fun l hl => CC_0 (n + 1) l hl) _ (by omega)] at hs
            rw [← hs]; rfl
          · replace h3 : ¬ ((popL u : Int) < (w : Int)) := h3
            refine g_lload_n lk_26_42 rfl ?_
            refine g_iload lk_26_43 rfl ?_
            refine g_lshr lk_26_45 ?_
            refine g_top (z := (pm_shrL (m : Int) (i : Int))) (z' := (u : Int)) (e1) ?_
            refine g_lconst lk_26_46 ?_
            refine g_land lk_26_47 ?_
            refine g_top (z := (pm_andL (u : Int) 1)) (z' := (b : Int)) (e2) ?_
            refine g_lconst lk_26_48 ?_
            refine g_lcmp lk_26_49 ?_
            refine g_top (z := (pm_cmp (pm_wL (b : Int)) (pm_wL 0))) (z' := (b : Int)) (e3) ?_
            refine g_if (t := 74) lk_26_50 rfl (by first | (unfold pm_inI; omega) | exact pm_and_in _ _ | exact pm_shr_in _ _ | exact pm_or_in _ _ | exact pm_xor_in _ _ | exact pm_shl_in _ _ | exact pm_cmp_in _ _ | exact pm_b8_in _ | (unfold pm_inI; split <;> omega)) (fun h4 => ?_) (fun h4 => ?_)
            · replace h4 : (b : Int) = 0 := h4
              refine g_iinc (ls' := [(2, ((34 : Nat) : Int)), (1, (m : Int)), (9, 0), (0, (w : Int)), (0, (sum : Int)), (0, ((i : Int) + 1))]) lk_26_74 rfl rfl rfl ?_
              refine g_goto (t := 22) lk_26_77 rfl ?_
              have hb0 : m.testBit i = false := bt_off.mp (by omega)
              rw [hb0] at lc
              have lc : lsx m i (x :: l) = lsx m (i + 1) l := lc
              rw [lc] at hs
              exact nx sum hs
            · replace h4 : ¬ ((b : Int) = 0) := h4
              refine g_iload lk_26_53 rfl ?_
              refine g_aload_n lk_26_55 rfl ?_
              refine g_lload_n lk_26_56 rfl ?_
              refine g_aload_n lk_26_57 rfl ?_
              refine g_getfield lk_26_58 rfl (lay.on (by decide) rfl) (v := ((36 : Nat) : Int)) (lay.rf rfl) ?_
              refine g_iload lk_26_61 rfl ?_
              refine m_laload (u := []) (M := M) lk_26_63 (lay.ay (by decide) rfl) (by omega) (j := i) (by omega) (v := (pt : Int)) p36' ?_
              refine g_land lk_26_64 ?_
              refine g_top (z := (pm_andL (m : Int) (pt : Int))) (z' := ((m &&& pt : Nat) : Int)) (e4) ?_
              refine g_iload_n lk_26_65 rfl ?_
              refine g_iconst lk_26_66 ?_
              refine g_isub lk_26_67 ?_
              have hb1 : m.testBit i = true := bt_on.mp (by omega)
              rw [hb1] at lc
              have lc : lsx m i (x :: l) = x :: lsx m (i + 1) l := lc
              rw [lc] at hs
              have hs : sum + (CC (fo T v) (n + 1) ((lsx m (i + 1) l).filter (fo T v x)) + Cx (fo T v) (CC (fo T v) (n + 1)) (lsx m (i + 1) l)) = CC (fo T v) (n + 1 + 1) (lsx m 0 L) := hs
              rw [← tk] at hs
              have ew : (w : Int) - 1 = ((n + 1 : Nat) : Int) := by omega
              rw [ew]
              refine g_virtual (p := 34) (Qc := _) lk_26_68 rfl (Nat.le_of_ble_eq_true rfl) rfl rfl (lay.on (by decide) rfl) (Nat.le_of_ble_eq_true rfl) (Nat.le_of_ble_eq_true rfl) (Nat.zero_le _) (Nat.zero_le _) (ihn d 0 0 (m &&& pt) M (by omega) lay hFo (Nat.lt_of_le_of_lt Nat.and_le_left hm)) ?_
              rintro _ N' ⟨rfl, rfl⟩
              refine g_iadd lk_26_71 ?_
              refine g_istore (ls' := [(2, ((34 : Nat) : Int)), (1, (m : Int)), (9, 0), (0, (w : Int)), (0, (sum : Int) + (CC (fo T v) (n + 1) (lsx (m &&& pt) 0 L) : Int)), (0, (i : Int))]) lk_26_72 rfl rfl ?_
              refine g_iinc (ls' := [(2, ((34 : Nat) : Int)), (1, (m : Int)), (9, 0), (0, (w : Int)), (0, (sum : Int) + (CC (fo T v) (n + 1) (lsx (m &&& pt) 0 L) : Int)), (0, (i : Int) + 1)]) lk_26_74 rfl rfl rfl ?_
              refine g_goto (t := 22) lk_26_77 rfl ?_
              exact nx (sum + CC (fo T v) (n + 1) (lsx (m &&& pt) 0 L)) (by omega)
    show Wp (d + (n + 1) + 1) 26 0 [(2, ((34 : Nat) : Int)), (1, (m : Int)), (9, 0), (0, ((n + 1 + 1 : Nat) : Int)), (9, 0), (9, 0)] [] M mc ms Q
    rw [← hw]
    refine g_iload_n lk_26_0 rfl ?_
    refine g_iconst lk_26_1 ?_
    refine g_icmp (t := 11) lk_26_2 rfl (by first | (unfold pm_inI; omega) | exact pm_and_in _ _ | exact pm_shr_in _ _ | exact pm_or_in _ _ | exact pm_xor_in _ _ | exact pm_shl_in _ _ | exact pm_cmp_in _ _ | exact pm_b8_in _ | (unfold pm_inI; split <;> omega)) (by first | (unfold pm_inI; omega) | exact pm_and_in _ _ | exact pm_shr_in _ _ | exact pm_or_in _ _ | exact pm_xor_in _ _ | exact pm_shl_in _ _ | exact pm_cmp_in _ _ | exact pm_b8_in _ | (unfold pm_inI; split <;> omega)) (fun h1 => ?_) (fun h1 => ?_)
    · replace h1 : (w : Int) ≤ 1 := h1
      omega
    · replace h1 : ¬ ((w : Int) ≤ 1) := h1
      refine g_iload_n lk_26_5 rfl ?_
      refine g_bipush lk_26_6 ?_
      refine g_icmp (t := 16) lk_26_8 rfl (by first | (unfold pm_inI; omega) | exact pm_and_in _ _ | exact pm_shr_in _ _ | exact pm_or_in _ _ | exact pm_xor_in _ _ | exact pm_shl_in _ _ | exact pm_cmp_in _ _ | exact pm_b8_in _ | (unfold pm_inI; split <;> omega)) (by first | (unfold pm_inI; omega) | exact pm_and_in _ _ | exact pm_shr_in _ _ | exact pm_or_in _ _ | exact pm_xor_in _ _ | exact pm_shl_in _ _ | exact pm_cmp_in _ _ | exact pm_b8_in _ | (unfold pm_inI; split <;> omega)) (fun h2 => ?_) (fun h2 => ?_)
      · replace h2 : (w : Int) ≤ 6 := h2
        refine g_iconst lk_26_16 ?_
        refine g_istore (ls' := [(2, ((34 : Nat) : Int)), (1, (m : Int)), (9, 0), (0, (w : Int)), (0, 0), (9, 0)]) lk_26_17 rfl rfl ?_
        refine g_iconst lk_26_19 ?_
        refine g_istore (ls' := [(2, ((34 : Nat) : Int)), (1, (m : Int)), (9, 0), (0, (w : Int)), (0, 0), (0, 0)]) lk_26_20 rfl rfl ?_
        exact main L [] 0 rfl (Nat.zero_add _)
      · replace h2 : ¬ ((w : Int) ≤ 6) := h2
        omega
def nm (x : Nat) : Nat := x / 6 * 10 + x % 6
theorem c_Fools_nameOf {d mc ms : Nat} {M : pm_M} (lay : Lay M) {T : Tab} (hT : TabOK T) {v : Nat} (hFo : FoAt M T v) {i x : Nat} (hi : (fc T v)[i]? = some x) :
    pm_E d 21 [(2, ((34 : Nat) : Int)), (0, (i : Int))] M mc ms (fun ρ M' => ρ = some (0, (nm x : Int)) ∧ M' = M) := by
  have c5 := hFo.1.1
  have cx := hFo.1.2 i x hi
  have il := (List.getElem?_eq_some_iff.mp hi).1
  have L36 := fc_len hT v
  have xl : x < 36 := by
    have := (fa_mem hT v x (tR T)).mp (List.mem_of_getElem? hi)
    have := hT.1
    omega
  obtain ⟨n, hn⟩ : ∃ n, n = (fc T v).length := ⟨_, rfl⟩
  rw [← hn] at c5 il L36
  show Wp d 21 0 [(2, ((34 : Nat) : Int)), (0, (i : Int))] [] M mc ms _
  refine g_iload_n lk_21_0 rfl ?_
  refine g_if (t := 37) lk_21_1 rfl (by first | (unfold pm_inI; omega) | exact pm_and_in _ _ | exact pm_shr_in _ _ | exact pm_or_in _ _ | exact pm_xor_in _ _ | exact pm_shl_in _ _ | exact pm_cmp_in _ _ | exact pm_b8_in _ | (unfold pm_inI; split <;> omega)) (fun h1 => ?_) (fun h1 => ?_)
  · replace h1 : (i : Int) < 0 := h1
    omega
  · replace h1 : ¬ ((i : Int) < 0) := h1
    refine g_iload_n lk_21_4 rfl ?_
    refine g_aload_n lk_21_5 rfl ?_
    refine m_getfield (u := []) (M := M) lk_21_6 rfl (lay.on (by decide) rfl) (v := (n : Int)) c5 ?_
    refine g_icmp (t := 37) lk_21_9 rfl (by first | (unfold pm_inI; omega) | exact pm_and_in _ _ | exact pm_shr_in _ _ | exact pm_or_in _ _ | exact pm_xor_in _ _ | exact pm_shl_in _ _ | exact pm_cmp_in _ _ | exact pm_b8_in _ | (unfold pm_inI; split <;> omega)) (by first | (unfold pm_inI; omega) | exact pm_and_in _ _ | exact pm_shr_in _ _ | exact pm_or_in _ _ | exact pm_xor_in _ _ | exact pm_shl_in _ _ | exact pm_cmp_in _ _ | exact pm_b8_in _ | (unfold pm_inI; split <;> omega)) (fun h2 => ?_) (fun h2 => ?_)
    · replace h2 : (n : Int) ≤ (i : Int) := h2
      omega
    · replace h2 : ¬ ((n : Int) ≤ (i : Int)) := h2
      refine g_aload_n lk_21_12 rfl ?_
      refine g_getfield lk_21_13 rfl (lay.on (by decide) rfl) (v := ((35 : Nat) : Int)) (lay.rf rfl) ?_
      refine g_iload_n lk_21_16 rfl ?_
      refine m_iaload (u := []) (M := M) lk_21_17 (lay.ay (by decide) rfl) (by omega) (j := i) (by omega) (v := (x : Int)) cx ?_
      refine g_bipush lk_21_18 ?_
      refine g_idiv lk_21_20 (by unfold pm_inI; omega) (by unfold pm_inI; omega) (by omega) ?_
      refine g_bipush lk_21_21 ?_
      refine g_imul lk_21_23 ?_
      refine g_aload_n lk_21_24 rfl ?_
      refine g_getfield lk_21_25 rfl (lay.on (by decide) rfl) (v := ((35 : Nat) : Int)) (lay.rf rfl) ?_
      refine g_iload_n lk_21_28 rfl ?_
      refine m_iaload (u := []) (M := M) lk_21_29 (lay.ay (by decide) rfl) (by omega) (j := i) (by omega) (v := (x : Int)) cx ?_
      refine g_bipush lk_21_30 ?_
      refine g_irem lk_21_32 (by unfold pm_inI; omega) (by unfold pm_inI; omega) (by omega) ?_
      refine g_iadd lk_21_33 ?_
      refine g_goto (t := 38) lk_21_34 rfl ?_
      refine g_ireturn lk_21_38 (fun h => absurd h (by decide)) ?_
      refine ⟨?_, rfl⟩
      congr 2
noncomputable def sFooling (T : Tab) (v k : Int) : Int := if isV v = 0 then -1 else if k = -1 then ((bK T v.toNat).length : Int) else if k < 0 ∨ ((bK T v.toNat).length : Int) ≤ k then -1 else (nm ((bK T v.toNat).getD k.toNat 0) : Int)
def sFools (T : Tab) (v n : Int) : Int := if isV v = 0 ∨ n < 0 ∨ 6 < n then -1 else (CC (fo T v.toNat) n.toNat (fc T v.toNat) : Int)
/-- the scratch of Fools -/
def sF : List Nat := [34, 35, 36, 37, 38]
theorem sF_1 {M N : pm_M} (h : Fr [34, 35, 36] M N) : Fr sF M N := h.mono (fun a q => by simp at q; unfold sF; simp; omega)
theorem sF_2 {M N : pm_M} (h : Fr [34, 37, 38] M N) : Fr sF M N := h.mono (fun a q => by simp at q; unfold sF; simp; omega)
set_option maxHeartbeats 4000000 in
theorem c_X_fooling {d mc ms : Nat} {M : pm_M} (lay0 : Lay M) {T : Tab} (hT : TabOK T) (hM0 : TbAt M 24 T) {v k : Int} (hv : pm_inI v) (hk : pm_inI k) :
    pm_E (d + 9) 131 [(2, ((1 : Nat) : Int)), (0, v), (0, k)] M mc ms (fun ρ M' => ρ = some (0, sFooling T v k) ∧ Lay M' ∧ Fr sF M M') := by
  obtain ⟨Q, hQ⟩ : ∃ Q : pm_Q, Q = (fun ρ M' => ρ = some (0, sFooling T v k) ∧ Lay M' ∧ Fr sF M M') := ⟨_, rfl⟩
  rw [← hQ]
  have iv := isV_range v
  have fin : ∀ (z : Int) (N : pm_M), z = sFooling T v k → Lay N → Fr sF M N → Q (some (0, z)) N := fun z N hz h1 h2 => by rw [hQ, hz]; exact ⟨rfl, h1, h2⟩
  have k24 : ¬ isV v = 0 → ∀ N : pm_M, Lay N → Fr sF M N → FoAt N T v.toNat → pm_ct N 34 6 = ((bK T v.toNat).length : Int) → (bK T v.toNat).length ≤ 6 → PhAt N 38 (fc T v.toNat) (bK T v.toNat) → Wp (d + 9) 131 24 [(2, ((1 : Nat) : Int)), (0, v), (0, k)] [] N mc ms Q := by
    intro h1v N lay hF hFo g6 gl gp
    obtain ⟨n, hn⟩ : ∃ n, n = (bK T v.toNat).length := ⟨_, rfl⟩
    rw [← hn] at g6 gl
    have i68 : 0 ≤ k → k < n → ∃ i x : Nat, pm_ct N 38 k.toNat = (i : Int) ∧ (fc T v.toNat)[i]? = some x ∧ (bK T v.toNat).getD k.toNat 0 = x := fun a b => by
      have hx : (bK T v.toNat)[k.toNat]? = some (bK T v.toNat)[k.toNat] := List.getElem?_eq_getElem (by omega)
      obtain ⟨i, c1, c2⟩ := gp _ _ hx
      exact ⟨i, _, c1, c2, by rw [List.getD_eq_getElem?_getD, hx]; rfl⟩
    refine g_iload_n lk_131_24 rfl ?_
    refine g_iconst lk_131_25 ?_
    refine g_icmp (t := 37) lk_131_26 rfl (by first | assumption | (unfold pm_inI; omega)) (by first | assumption | (unfold pm_inI; omega)) (fun h1 => ?_) (fun h1 => ?_)
    · replace h1 : ¬ k = (-1) := h1
      refine g_iload_n lk_131_37 rfl ?_
      refine g_if (t := 52) lk_131_38 rfl (by first | assumption | (unfold pm_inI; omega)) (fun h2 => ?_) (fun h2 => ?_)
      · replace h2 : k < 0 := h2
        refine g_iconst lk_131_52 ?_
        refine g_goto (t := 72) lk_131_53 rfl ?_
        refine g_ireturn lk_131_72 (fun h => absurd h (by decide)) ?_
        refine fin _ _ ?_ lay hF
        unfold sFooling
        rw [if_neg h1v, if_neg (by omega), if_pos (by omega)]
      · replace h2 : ¬ (k < 0) := h2
        refine g_iload_n lk_131_41 rfl ?_
        refine g_aload_n lk_131_42 rfl ?_
        refine g_getfield lk_131_43 rfl (lay.on (by decide) rfl) (v := ((34 : Nat) : Int)) (lay.rf rfl) ?_
        refine m_getfield (u := []) (M := N) lk_131_46 rfl (lay.on (by decide) rfl) (v := (n : Int)) g6 ?_
        refine g_icmp (t := 56) lk_131_49 rfl (by first | assumption | (unfold pm_inI; omega)) (by first | assumption | (unfold pm_inI; omega)) (fun h3 => ?_) (fun h3 => ?_)
        · replace h3 : k < (n : Int) := h3
          refine g_aload_n lk_131_56 rfl ?_
          refine g_getfield lk_131_57 rfl (lay.on (by decide) rfl) (v := ((34 : Nat) : Int)) (lay.rf rfl) ?_
          refine g_aload_n lk_131_60 rfl ?_
          refine g_getfield lk_131_61 rfl (lay.on (by decide) rfl) (v := ((34 : Nat) : Int)) (lay.rf rfl) ?_
          refine g_getfield lk_131_64 rfl (lay.on (by decide) rfl) (v := ((38 : Nat) : Int)) (lay.rf rfl) ?_
          refine g_iload_n lk_131_67 rfl ?_
          refine m_iaload (u := []) (M := N) lk_131_68 (lay.ay (by decide) rfl) (by omega) (j := k.toNat) (by omega) (v := pm_ct N 38 k.toNat) rfl ?_
          obtain ⟨i, x, c1, c2, c3⟩ := i68 (by omega) (by omega)
          rw [c1]
          refine g_virtual (p := 34) (Qc := _) lk_131_69 rfl (Nat.le_of_ble_eq_true rfl) rfl rfl (lay.on (by decide) rfl) (Nat.le_of_ble_eq_true rfl) (Nat.le_of_ble_eq_true rfl) (Nat.zero_le _) (Nat.zero_le _) (c_Fools_nameOf lay hT hFo c2) ?_
          rintro _ N' ⟨rfl, rfl⟩
          refine g_ireturn lk_131_72 (fun h => absurd h (by decide)) (fin _ _ ?_ lay hF)
          unfold sFooling
          rw [if_neg h1v, if_neg (by omega), if_neg (by omega), c3]
        · replace h3 : ¬ (k < (n : Int)) := h3
          refine g_iconst lk_131_52 ?_
          refine g_goto (t := 72) lk_131_53 rfl ?_
          refine g_ireturn lk_131_72 (fun h => absurd h (by decide)) ?_
          refine fin _ _ ?_ lay hF
          unfold sFooling
          rw [if_neg h1v, if_neg (by omega), if_pos (by omega)]
    · replace h1 : ¬ (¬ k = (-1)) := h1
      refine g_aload_n lk_131_29 rfl ?_
      refine g_getfield lk_131_30 rfl (lay.on (by decide) rfl) (v := ((34 : Nat) : Int)) (lay.rf rfl) ?_
      refine m_getfield (u := []) (M := N) lk_131_33 rfl (lay.on (by decide) rfl) (v := (n : Int)) g6 ?_
      refine g_ireturn lk_131_36 (fun h => absurd h (by decide)) ?_
      refine fin _ _ ?_ lay hF
      unfold sFooling
      rw [if_neg h1v, if_pos (by omega), hn]
  have k17 : ¬ isV v = 0 → ∀ N : pm_M, Lay N → Fr sF M N → FoAt N T v.toNat → Wp (d + 9) 131 17 [(2, ((1 : Nat) : Int)), (0, v), (0, k)] [] N mc ms Q := by
    intro h1v N lay hF hFo
    refine g_aload_n lk_131_17 rfl ?_
    refine g_getfield lk_131_18 rfl (lay.on (by decide) rfl) (v := ((34 : Nat) : Int)) (lay.rf rfl) ?_
    refine g_virtual (p := 34) (Qc := _) lk_131_21 rfl (Nat.le_of_ble_eq_true rfl) rfl rfl (lay.on (by decide) rfl) (Nat.le_of_ble_eq_true rfl) (Nat.le_of_ble_eq_true rfl) (Nat.zero_le _) (Nat.zero_le _) (c_Fools_findGreatest (d := d) lay hT hFo) ?_
    rintro _ N' ⟨rfl, lay', hF', hFo', g6, gl, gp, -⟩
    exact k24 h1v N' lay' (hF.trans (sF_2 hF')) hFo' g6 gl gp
  show Wp (d + 9) 131 0 [(2, ((1 : Nat) : Int)), (0, v), (0, k)] [] M mc ms Q
  refine g_iload_n lk_131_0 rfl ?_
  refine g_static (Qc := _) lk_131_1 (by decide) rfl (Nat.le_of_ble_eq_true rfl) rfl rfl (Nat.le_of_ble_eq_true rfl) (Nat.le_of_ble_eq_true rfl) (Nat.zero_le _) (Nat.zero_le _) (c_X_isValue (by assumption)) ?_
  rintro _ N1 ⟨rfl, hN1⟩
  rw [hN1]
  show Wp _ 131 4 [(2, ((1 : Nat) : Int)), (0, v), (0, k)] [(0, (isV v))] M _ _ _
  refine g_if (t := 9) lk_131_4 rfl (by (unfold pm_inI; omega)) (fun h2 => ?_) (fun h2 => ?_)
  · replace h2 : ¬ (isV v) = 0 := h2
    refine g_aload_n lk_131_9 rfl ?_
    refine g_getfield lk_131_10 rfl (lay0.on (by decide) rfl) (v := ((34 : Nat) : Int)) (lay0.rf rfl) ?_
    refine g_iload_n lk_131_13 rfl ?_
    obtain ⟨v1, v2⟩ := isV_1 h2
    obtain ⟨u, rfl⟩ := Int.eq_ofNat_of_zero_le v1
    refine g_virtual (p := 34) (Qc := _) lk_131_14 rfl (Nat.le_of_ble_eq_true rfl) rfl rfl (lay0.on (by decide) rfl) (Nat.le_of_ble_eq_true rfl) (Nat.le_of_ble_eq_true rfl) (Nat.zero_le _) (Nat.zero_le _) (c_Fools_take (d := d + 6) lay0 hT hM0 (v := u) (by omega)) ?_
    rintro _ N' ⟨rfl, lay', hF', hFo⟩
    exact k17 h2 N' lay' (sF_1 hF') hFo
  · replace h2 : ¬ (¬ (isV v) = 0) := h2
    refine g_iconst lk_131_7 ?_
    refine g_ireturn lk_131_8 (fun h => absurd h (by decide)) ?_
    refine fin _ _ ?_ lay0 (Fr.refl _ _)
    unfold sFooling
    rw [if_pos (by omega)]
set_option maxHeartbeats 4000000 in
theorem c_X_fools {d mc ms : Nat} {M : pm_M} (lay0 : Lay M) {T : Tab} (hT : TabOK T) (hM0 : TbAt M 24 T) {v k : Int} (hv : pm_inI v) (hk : pm_inI k) :
    pm_E (d + 9) 132 [(2, ((1 : Nat) : Int)), (0, v), (0, k)] M mc ms (fun ρ M' => ρ = some (0, sFools T v k) ∧ Lay M' ∧ Fr sF M M') := by
  obtain ⟨Q, hQ⟩ : ∃ Q : pm_Q, Q = (fun ρ M' => ρ = some (0, sFools T v k) ∧ Lay M' ∧ Fr sF M M') := ⟨_, rfl⟩
  rw [← hQ]
  have iv := isV_range v
  have fin : ∀ (z : Int) (N : pm_M), z = sFools T v k → Lay N → Fr sF M N → Q (some (0, z)) N := fun z N hz h1 h2 => by rw [hQ, hz]; exact ⟨rfl, h1, h2⟩
  have many : 0 ≤ k → k ≤ 6 → ∀ N : pm_M, Lay N → FoAt N T v.toNat → pm_E (d + 8) 25 [(2, ((34 : Nat) : Int)), (0, k)] N 0 0 (fun ρ M' => ρ = some (0, (CC (fo T v.toNat) k.toNat (fc T v.toNat) : Int)) ∧ M' = N) := by
    intro k1 k2 N lay hFo
    have c5 := hFo.1.1
    have L36 := fc_len hT v.toNat
    obtain ⟨n, hn⟩ : ∃ n, n = (fc T v.toNat).length := ⟨_, rfl⟩
    rw [← hn] at c5 L36
    have ev : lsx (2 ^ n - 1) 0 (fc T v.toNat) = fc T v.toNat := by rw [hn]; exact lsx_every _
    have n1 : 1 ≤ 2 ^ n := Nat.one_le_two_pow
    show Wp (d + 8) 25 0 [(2, ((34 : Nat) : Int)), (0, k)] [] N 0 0 _
    refine g_iload_n lk_25_0 rfl ?_
    refine g_if (t := 8) lk_25_1 rfl (by first | assumption | (unfold pm_inI; omega)) (fun h1 => ?_) (fun h1 => ?_)
    · replace h1 : ¬ k = 0 := h1
      refine g_aload_n lk_25_8 rfl ?_
      refine g_aload_n lk_25_9 rfl ?_
      refine g_virtual (p := 34) (Qc := _) lk_25_10 rfl (Nat.le_of_ble_eq_true rfl) rfl rfl (lay.on (by decide) rfl) (Nat.le_of_ble_eq_true rfl) (Nat.le_of_ble_eq_true rfl) (Nat.zero_le _) (Nat.zero_le _) (c_Fools_everyCell lay L36 c5) ?_
      rintro _ N2 ⟨rfl, hN2⟩
      rw [hN2]
      show Wp _ 25 13 [(2, ((34 : Nat) : Int)), (0, k)] [(1, ((2 ^ n - 1 : Nat) : Int)), (2, ((34 : Nat) : Int))] N _ _ _
      refine g_iload_n lk_25_13 rfl ?_
      obtain ⟨j, rfl⟩ : ∃ j : Nat, k = ((j + 1 : Nat) : Int) := ⟨k.toNat - 1, by omega⟩
      refine g_virtual (p := 34) (Qc := _) lk_25_14 rfl (Nat.le_of_ble_eq_true rfl) rfl rfl (lay.on (by decide) rfl) (Nat.le_of_ble_eq_true rfl) (Nat.le_of_ble_eq_true rfl) (Nat.zero_le _) (Nat.zero_le _) (show pm_E (d + 7) _ _ _ _ _ _ from (by have := c_Fools_countFrom hT (v := v.toNat) j (d + 6 - j) 0 0 (2 ^ n - 1) N (by omega) lay hFo (by rw [← hn]; omega); rw [show d + 6 - j + j + 1 = d + 7 by omega] at this; exact this)) ?_
      rintro _ N' ⟨rfl, rfl⟩
      refine g_ireturn lk_25_17 (fun h => absurd h (by decide)) ⟨?_, rfl⟩
      rw [ev, Int.toNat_natCast]
    · replace h1 : ¬ (¬ k = 0) := h1
      refine g_iconst lk_25_4 ?_
      refine g_goto (t := 17) lk_25_5 rfl ?_
      refine g_ireturn lk_25_17 (fun h => absurd h (by decide)) ?_
      refine ⟨?_, rfl⟩
      rw [show k = 0 by omega]; rfl
  have k27 : ¬ isV v = 0 → 0 ≤ k → k ≤ 6 → ∀ N : pm_M, Lay N → Fr sF M N → FoAt N T v.toNat → Wp (d + 9) 132 27 [(2, ((1 : Nat) : Int)), (0, v), (0, k)] [] N mc ms Q := by
    intro h1v k1 k2 N lay hF hFo
    refine g_aload_n lk_132_27 rfl ?_
    refine g_getfield lk_132_28 rfl (lay.on (by decide) rfl) (v := ((34 : Nat) : Int)) (lay.rf rfl) ?_
    refine g_iload_n lk_132_31 rfl ?_
    refine g_virtual (p := 34) (Qc := _) lk_132_32 rfl (Nat.le_of_ble_eq_true rfl) rfl rfl (lay.on (by decide) rfl) (Nat.le_of_ble_eq_true rfl) (Nat.le_of_ble_eq_true rfl) (Nat.zero_le _) (Nat.zero_le _) (many k1 k2 N lay hFo) ?_
    rintro _ N' ⟨rfl, rfl⟩
    refine g_ireturn lk_132_35 (fun h => absurd h (by decide)) (fin _ _ ?_ lay hF)
    unfold sFools
    rw [if_neg (by omega)]
  show Wp (d + 9) 132 0 [(2, ((1 : Nat) : Int)), (0, v), (0, k)] [] M mc ms Q
  refine g_iload_n lk_132_0 rfl ?_
  refine g_static (Qc := _) lk_132_1 (by decide) rfl (Nat.le_of_ble_eq_true rfl) rfl rfl (Nat.le_of_ble_eq_true rfl) (Nat.le_of_ble_eq_true rfl) (Nat.zero_le _) (Nat.zero_le _) (c_X_isValue (by assumption)) ?_
  rintro _ N1 ⟨rfl, hN1⟩
  rw [hN1]
  show Wp _ 132 4 [(2, ((1 : Nat) : Int)), (0, v), (0, k)] [(0, (isV v))] M _ _ _
  refine g_if (t := 17) lk_132_4 rfl (by first | assumption | (unfold pm_inI; omega)) (fun h2 => ?_) (fun h2 => ?_)
  · replace h2 : (isV v) = 0 := h2
    refine g_iconst lk_132_17 ?_
    refine g_ireturn lk_132_18 (fun h => absurd h (by decide)) ?_
    refine fin _ _ ?_ lay0 (Fr.refl _ _)
    unfold sFools
    rw [if_pos (by omega)]
  · replace h2 : ¬ ((isV v) = 0) := h2
    refine g_iload_n lk_132_7 rfl ?_
    refine g_if (t := 17) lk_132_8 rfl (by first | assumption | (unfold pm_inI; omega)) (fun h3 => ?_) (fun h3 => ?_)
    · replace h3 : k < 0 := h3
      refine g_iconst lk_132_17 ?_
      refine g_ireturn lk_132_18 (fun h => absurd h (by decide)) ?_
      refine fin _ _ ?_ lay0 (Fr.refl _ _)
      unfold sFools
      rw [if_pos (by omega)]
    · replace h3 : ¬ (k < 0) := h3
      refine g_iload_n lk_132_11 rfl ?_
      refine g_bipush lk_132_12 ?_
      refine g_icmp (t := 19) lk_132_14 rfl (by first | assumption | (unfold pm_inI; omega)) (by first | assumption | (unfold pm_inI; omega)) (fun h4 => ?_) (fun h4 => ?_)
      · replace h4 : k ≤ 6 := h4
        refine g_aload_n lk_132_19 rfl ?_
        refine g_getfield lk_132_20 rfl (lay0.on (by decide) rfl) (v := ((34 : Nat) : Int)) (lay0.rf rfl) ?_
        refine g_iload_n lk_132_23 rfl ?_
        have h1v : ¬ isV v = 0 := by omega
        obtain ⟨v1, v2⟩ := isV_1 h1v
        obtain ⟨u, rfl⟩ := Int.eq_ofNat_of_zero_le v1
        refine g_virtual (p := 34) (Qc := _) lk_132_24 rfl (Nat.le_of_ble_eq_true rfl) rfl rfl (lay0.on (by decide) rfl) (Nat.le_of_ble_eq_true rfl) (Nat.le_of_ble_eq_true rfl) (Nat.zero_le _) (Nat.zero_le _) (c_Fools_take (d := d + 6) lay0 hT hM0 (v := u) (by omega)) ?_
        rintro _ N' ⟨rfl, lay', hF', hFo⟩
        exact k27 h1v (by omega) (by omega) N' lay' (sF_1 hF') hFo
      · replace h4 : ¬ (k ≤ 6) := h4
        refine g_iconst lk_132_17 ?_
        refine g_ireturn lk_132_18 (fun h => absurd h (by decide)) ?_
        refine fin _ _ ?_ lay0 (Fr.refl _ _)
        unfold sFools
        rw [if_pos (by omega)]
