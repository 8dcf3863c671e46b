/-! ===== Fools: the greatest, and how many ===== -/
theorem pm_shrL_n {a k : Nat} (ha : a < 9223372036854775808) (hk : k < 64) : pm_shrL (a : Int) (k : Int) = ((a / 2 ^ k : Nat) : Int) := by
  unfold pm_shrL
  rw [pm_ofNL]
  have h0 := pm_shlL_tab ⟨k, hk⟩
  obtain ⟨c, hc⟩ : ∃ c, c = ((Int32.ofInt (k : Int)).toInt64 &&& 63) := ⟨_, rfl⟩
  rw [← hc] at h0 ⊢
  replace h0 : (c.toBitVec.smod 64).toNat = k := h0
  have h1 : (Int64.ofNat a >>> c).toInt = ((Int64.ofNat a).toBitVec.sshiftRight' (c.toBitVec.smod 64)).toInt := rfl
  rw [h1, BitVec.toInt_sshiftRight', h0]
  have h2 : (Int64.ofNat a).toBitVec.toInt = (a : Int) := pm_toNL ha
  rw [h2]
  have h3 : ((a : Int) >>> k) = ((a >>> k : Nat) : Int) := rfl
  rw [h3, Nat.shiftRight_eq_div_pow]
theorem pm_bitL {m i : Nat} (hm : m < 68719476736) : pm_andL ((m / 2 ^ i : Nat) : Int) 1 = (bt m i : Int) := by
  have h := pm_andL_n (a := m / 2 ^ i) (b := 1) (Nat.lt_of_le_of_lt (Nat.div_le_self _ _) (by omega))
  rw [show ((1 : Nat) : Int) = 1 from rfl] at h
  rw [h, Nat.and_one_is_mod]
  unfold bt
  rw [Nat.testBit_eq_decide_div_mod_eq]
  rcases Nat.mod_two_eq_zero_or_one (m / 2 ^ i) with q | q <;> simp [q]
theorem pm_cmpB (m i : Nat) : pm_cmp (pm_wL (bt m i : Int)) (pm_wL 0) = (bt m i : Int) := by
  rw [pm_cmp0 (by have := bt_1 m i; omega)]
  have := bt_1 m i
  by_cases h : bt m i = 0
  · rw [if_pos h, h]; rfl
  · rw [if_neg h, show bt m i = 1 by omega]; rfl
theorem bt_on {m i : Nat} : bt m i = 1 ↔ m.testBit i = true := by unfold bt; split <;> simp_all
theorem bt_off {m i : Nat} : bt m i = 0 ↔ m.testBit i = false := by unfold bt; split <;> simp_all
/-- indices of a list's elements -/
def PhAt (M : pm_M) (a : Nat) (L P : List Nat) : Prop := ∀ (j x : Nat), P[j]? = some x → ∃ i : Nat, pm_ct M a j = (i : Int) ∧ L[i]? = some x
theorem PhAt.of {M N : pm_M} {a : Nat} {L P : List Nat} (h : PhAt M a L P) (k : ∀ j, j < P.length → pm_ct N a j = pm_ct M a j) : PhAt N a L P := fun j x hj => by
  rw [k j (List.getElem?_eq_some_iff.mp hj).1]; exact h j x hj
theorem FoAt.of {M N : pm_M} {T : Tab} {v : Nat} (h : FoAt M T v) (h1 : pm_ct N 34 5 = pm_ct M 34 5) (h2 : pm_ct N 35 = pm_ct M 35) (h3 : pm_ct N 36 = pm_ct M 36) : FoAt N T v := by
  unfold FoAt CeAt; rw [h1, h2, h3]; exact h
/-- what is left when one is taken: those behind it that fool with it -/
theorem lsx_take {T : Tab} {v m : Nat} {pre l : List Nat} {x : Nat} {L : List Nat} (hL : L = pre ++ x :: l) : lsx (m &&& ptm T v L pre.length L.length) 0 L = (lsx m (pre.length + 1) l).filter (fo T v x) := by
  obtain ⟨p, hp⟩ : ∃ p, p = ptm T v L pre.length L.length := ⟨_, rfl⟩
  have gx : L.getD pre.length 0 = x := by rw [hL, List.getD_eq_getElem?_getD, List.getElem?_append_right (Nat.le_refl _)]; simp
  rw [← hp]
  have e1 : L = (pre ++ [x]) ++ l := by rw [hL]; simp
  have h1 : lsx (m &&& p) 0 L = lsx (m &&& p) (pre.length + 1) l := by
    have := lsx_pre (m := m &&& p) (pre ++ [x]) l 0 (fun j hj => by
      rw [List.length_append] at hj
      have e2 : [x].length = 1 := rfl
      rw [Nat.testBit_and, hp, ptm_bit, show decide (pre.length < 0 + j) = false by simp; omega]
      simp)
    rw [← e1, List.length_append] at this
    rw [this]
    show lsx _ (0 + (pre.length + 1)) l = _
    rw [Nat.zero_add]
  rw [h1]
  refine (lsx_filter l (pre.length + 1) (fun j y hj => ?_)).symm
  have hy : L[pre.length + 1 + j]? = some y := by
    rw [e1, List.getElem?_append_right (by rw [List.length_append]; show pre.length + 1 ≤ _; omega), List.length_append]
    show l[pre.length + 1 + j - (pre.length + 1)]? = some y
    rw [show pre.length + 1 + j - (pre.length + 1) = j by omega]; exact hj
  have gy : L.getD (pre.length + 1 + j) 0 = y := by rw [List.getD_eq_getElem?_getD, hy]; rfl
  have ly := (List.getElem?_eq_some_iff.mp hy).1
  rw [Nat.testBit_and, hp, ptm_bit, gx, gy]
  simp [ly, show pre.length < pre.length + 1 + j by omega]
theorem app_get {P : List Nat} {x j y : Nat} (h : (P ++ [x])[j]? = some y) : (j < P.length ∧ P[j]? = some y) ∨ (j = P.length ∧ y = x) := by
  have h1 := (List.getElem?_eq_some_iff.mp h).1
  rw [List.length_append] at h1
  have e1 : [x].length = 1 := rfl
  by_cases hj : j < P.length
  · rw [List.getElem?_append_left hj] at h; exact Or.inl ⟨hj, h⟩
  · have e : j = P.length := by omega
    rw [e, List.getElem?_append_right (Nat.le_refl _), Nat.sub_self] at h
    refine Or.inr ⟨e, ?_⟩
    simpa using h.symm
set_option maxHeartbeats 8000000 in
theorem c_Fools_lengthen {T : Tab} (hT : TabOK T) {v : Nat} : ∀ (k d mc ms size m t : Nat) (M : pm_M) (P X : List Nat), size + k = 6 → Lay M → FoAt M T v → m < 68719476736 → P.length = size → PhAt M 37 (fc T v) P → pm_ct M 34 6 = (t : Int) → X.length = t → t ≤ 6 → PhAt M 38 (fc T v) X → (∀ q, IsK (fo T v) (lsx m 0 (fc T v)) q → size + q.length ≤ 6) →
    pm_E (d + k + 1) 24 [(2, ((34 : Nat) : Int)), (1, (m : Int)), (0, (size : Int))] M mc ms (fun ρ M' => ρ = none ∧ Lay M' ∧ Fr [34, 37, 38] M M' ∧ FoAt M' T v ∧ (∀ j, j < size → pm_ct M' 37 j = pm_ct M 37 j) ∧ ∃ (t' : Nat) (X' : List Nat), pm_ct M' 34 6 = (t' : Int) ∧ X'.length = t' ∧ t' ≤ 6 ∧ PhAt M' 38 (fc T v) X' ∧ Rs (IsK (fo T v) (lsx m 0 (fc T v))) P t X t' X') := by
  obtain ⟨L, hL⟩ : ∃ L, L = fc T v := ⟨_, rfl⟩
  have L36 : L.length ≤ 36 := by rw [hL]; exact fc_len hT v
  have srt : L.Pairwise (fun a b => a < b) := by rw [hL]; exact fa_srt hT v (tR T)
  rw [← hL]
  intro k
  induction k with
  | zero =>
    intro d mc ms size m t M P X hk lay0 hFo hm hP hPh htop hX ht6 hXh hB
    have z : ∀ q, IsK (fo T v) (lsx m 0 L) q → q = [] := fun q hq => List.length_eq_zero_iff.mp (by have := hB q hq; omega)
    obtain ⟨Q, hQ⟩ : ∃ Q : pm_Q, Q = (fun ρ M' => ρ = none ∧ Lay M' ∧ Fr [34, 37, 38] M M' ∧ FoAt M' T v ∧ (∀ j, j < size → pm_ct M' 37 j = pm_ct M 37 j) ∧ ∃ (t' : Nat) (X' : List Nat), pm_ct M' 34 6 = (t' : Int) ∧ X'.length = t' ∧ t' ≤ 6 ∧ PhAt M' 38 L X' ∧ Rs (IsK (fo T v) (lsx m 0 L)) P t X t' X') := ⟨_, rfl⟩
    rw [← hQ]
    have loop : ∀ (n i : Nat) (N : pm_M), i + n = size → t < size → Lay N → Fr [34, 37, 38] M N → FoAt N T v → pm_ct N 37 = pm_ct M 37 → pm_ct N 34 6 = (size : Int) → (∀ j, j < i → pm_ct N 38 j = pm_ct M 37 j) → Wp (d + 0 + 1) 24 16 [(2, ((34 : Nat) : Int)), (1, (m : Int)), (9, 0), (0, (size : Int)), (0, (i : Int))] [] N mc ms Q := by
      intro n
      induction n with
      | zero =>
        intro i N hi hlt lay hF hFo' h37 h6 hj
        refine g_iload lk_24_16 rfl ?_
        refine g_iload_n lk_24_18 rfl ?_
        refine g_icmp (t := 42) lk_24_19 rfl (by first | (unfold pm_inI; omega) | exact pm_and_in _ _ | exact pm_shr_in _ _ | exact pm_or_in _ _ | exact pm_xor_in _ _ | exact pm_shl_in _ _ | exact pm_cmp_in _ _ | exact pm_b8_in _ | (unfold pm_inI; split <;> omega)) (by first | (unfold pm_inI; omega) | exact pm_and_in _ _ | exact pm_shr_in _ _ | exact pm_or_in _ _ | exact pm_xor_in _ _ | exact pm_shl_in _ _ | exact pm_cmp_in _ _ | exact pm_b8_in _ | (unfold pm_inI; split <;> omega)) (fun h1 => ?_) (fun h1 => ?_)
        · replace h1 : (size : Int) ≤ (i : Int) := h1
          refine g_iload_n lk_24_42 rfl ?_
          refine g_bipush lk_24_43 ?_
          refine g_icmp (t := 49) lk_24_45 rfl (by first | (unfold pm_inI; omega) | exact pm_and_in _ _ | exact pm_shr_in _ _ | exact pm_or_in _ _ | exact pm_xor_in _ _ | exact pm_shl_in _ _ | exact pm_cmp_in _ _ | exact pm_b8_in _ | (unfold pm_inI; split <;> omega)) (by first | (unfold pm_inI; omega) | exact pm_and_in _ _ | exact pm_shr_in _ _ | exact pm_or_in _ _ | exact pm_xor_in _ _ | exact pm_shl_in _ _ | exact pm_cmp_in _ _ | exact pm_b8_in _ | (unfold pm_inI; split <;> omega)) (fun h2 => ?_) (fun h2 => ?_)
          · replace h2 : (size : Int) < 6 := h2
            omega
          · replace h2 : ¬ ((size : Int) < 6) := h2
            refine g_return lk_24_48 ?_
            rw [hQ]
            refine ⟨rfl, lay, hF, hFo', fun j _ => by rw [h37], size, P, h6, hP, by omega, fun j x hx => ?_, ?_⟩
            · have := (List.getElem?_eq_some_iff.mp hx).1
              rw [hj j (by omega)]; exact hPh j x hx
            · refine ⟨by omega, fun q hq => by rw [z q hq]; show P.length + 0 ≤ size; omega, fun e => by omega, fun _ => ⟨[], IsK_nil _ _, by show P.length + 0 = size; omega, by rw [List.append_nil], fun q' _ _ => trivial⟩⟩
        · replace h1 : ¬ ((size : Int) ≤ (i : Int)) := h1
          omega
      | succ n ih =>
        intro i N hi hlt lay hF hFo' h37 h6 hj
        refine g_iload lk_24_16 rfl ?_
        refine g_iload_n lk_24_18 rfl ?_
        refine g_icmp (t := 42) lk_24_19 rfl (by first | (unfold pm_inI; omega) | exact pm_and_in _ _ | exact pm_shr_in _ _ | exact pm_or_in _ _ | exact pm_xor_in _ _ | exact pm_shl_in _ _ | exact pm_cmp_in _ _ | exact pm_b8_in _ | (unfold pm_inI; split <;> omega)) (by first | (unfold pm_inI; omega) | exact pm_and_in _ _ | exact pm_shr_in _ _ | exact pm_or_in _ _ | exact pm_xor_in _ _ | exact pm_shl_in _ _ | exact pm_cmp_in _ _ | exact pm_b8_in _ | (unfold pm_inI; split <;> omega)) (fun h1 => ?_) (fun h1 => ?_)
        · replace h1 : (size : Int) ≤ (i : Int) := h1
          omega
        · replace h1 : ¬ ((size : Int) ≤ (i : Int)) := h1
          refine g_aload_n lk_24_22 rfl ?_
          refine g_getfield lk_24_23 rfl (lay.on (by decide) rfl) (v := ((38 : Nat) : Int)) (lay.rf rfl) ?_
          refine g_iload lk_24_26 rfl ?_
          refine g_aload_n lk_24_28 rfl ?_
          refine g_getfield lk_24_29 rfl (lay.on (by decide) rfl) (v := ((37 : Nat) : Int)) (lay.rf rfl) ?_
          refine g_iload lk_24_32 rfl ?_
          refine m_iaload (u := []) (M := N) lk_24_34 (lay.ay (by decide) rfl) (by omega) (j := i) (by omega) (v := pm_ct N 37 i) rfl ?_
          have lay2 : Lay (Mu [(38, pm_upd (pm_ct N 38) i (pm_ct N 37 i))] N) := lay.muA (l := []) (a := 38) (f := pm_upd (pm_ct N 38) i (pm_ct N 37 i)) rfl rfl
          refine m_iastore (u := []) (u' := [(38, pm_upd (pm_ct N 38) i (pm_ct N 37 i))]) (M := N) lk_24_35 (lay.ay (by decide) rfl) (by omega) (j := i) (by omega) rfl ?_
          refine g_iinc (ls' := [(2, ((34 : Nat) : Int)), (1, (m : Int)), (9, 0), (0, (size : Int)), (0, ((i : Int) + 1))]) lk_24_36 rfl rfl rfl ?_
          refine g_goto (t := 16) lk_24_39 rfl ?_
          refine ih (i + 1) _ (by omega) hlt lay2 (hF.trans (Fr.mu _ _ rfl)) (hFo'.of (by rw [Mu_ct]; rfl) (by rw [Mu_ct]; rfl) (by rw [Mu_ct]; rfl)) (by rw [Mu_ct]; exact h37) (by rw [Mu_ct]; exact h6) (fun j hj' => ?_)
          rw [Mu_ct]
          show pm_upd (pm_ct N 38) i _ j = _
          by_cases e : j = i
          · subst e; rw [pm_upd_eq, h37]
          · rw [pm_upd_ne e]; exact hj j (by omega)
    show Wp (d + 0 + 1) 24 0 [(2, ((34 : Nat) : Int)), (1, (m : Int)), (9, 0), (0, (size : Int)), (9, 0)] [] M mc ms Q
    refine g_iload_n lk_24_0 rfl ?_
    refine g_aload_n lk_24_1 rfl ?_
    refine m_getfield (u := []) (M := M) lk_24_2 rfl (lay0.on (by decide) rfl) (v := (t : Int)) htop ?_
    refine g_icmp (t := 42) lk_24_5 rfl (by first | (unfold pm_inI; omega) | exact pm_and_in _ _ | exact pm_shr_in _ _ | exact pm_or_in _ _ | exact pm_xor_in _ _ | exact pm_shl_in _ _ | exact pm_cmp_in _ _ | exact pm_b8_in _ | (unfold pm_inI; split <;> omega)) (by first | (unfold pm_inI; omega) | exact pm_and_in _ _ | exact pm_shr_in _ _ | exact pm_or_in _ _ | exact pm_xor_in _ _ | exact pm_shl_in _ _ | exact pm_cmp_in _ _ | exact pm_b8_in _ | (unfold pm_inI; split <;> omega)) (fun h1 => ?_) (fun h1 => ?_)
    · replace h1 : (size : Int) ≤ (t : Int) := h1
      refine g_iload_n lk_24_42 rfl ?_
      refine g_bipush lk_24_43 ?_
      refine g_icmp (t := 49) lk_24_45 rfl (by first | (unfold pm_inI; omega) | exact pm_and_in _ _ | exact pm_shr_in _ _ | exact pm_or_in _ _ | exact pm_xor_in _ _ | exact pm_shl_in _ _ | exact pm_cmp_in _ _ | exact pm_b8_in _ | (unfold pm_inI; split <;> omega)) (by first | (unfold pm_inI; omega) | exact pm_and_in _ _ | exact pm_shr_in _ _ | exact pm_or_in _ _ | exact pm_xor_in _ _ | exact pm_shl_in _ _ | exact pm_cmp_in _ _ | exact pm_b8_in _ | (unfold pm_inI; split <;> omega)) (fun h2 => ?_) (fun h2 => ?_)
      · replace h2 : (size : Int) < 6 := h2
        omega
      · replace h2 : ¬ ((size : Int) < 6) := h2
        refine g_return lk_24_48 ?_
        rw [hQ]
        exact ⟨rfl, lay0, Fr.refl _ _, hFo, fun j _ => rfl, t, X, htop, hX, ht6, hXh, Rs.none (fun q hq => by rw [z q hq]; show P.length + 0 ≤ t; omega)⟩
    · replace h1 : ¬ ((size : Int) ≤ (t : Int)) := h1
      refine g_aload_n lk_24_8 rfl ?_
      refine g_iload_n lk_24_9 rfl ?_
      have lay3 : Lay (Mu [(34, pm_upd (pm_ct M 34) 6 (size : Int))] M) := lay0.muF (l := []) (a := 34) (k := 6) (z := (size : Int)) rfl rfl
      refine m_putfield (u := []) (u' := [(34, pm_upd (pm_ct M 34) 6 (size : Int))]) (M := M) lk_24_10 rfl (lay0.on (by decide) rfl) (fun h => absurd h (by decide)) rfl ?_
      refine g_iconst lk_24_13 ?_
      refine g_istore (ls' := [(2, ((34 : Nat) : Int)), (1, (m : Int)), (9, 0), (0, (size : Int)), (0, 0)]) lk_24_14 rfl rfl ?_
      refine loop size 0 _ (by omega) (by omega) lay3 (Fr.mu _ _ rfl) (hFo.of (by rw [Mu_ct]; rfl) (by rw [Mu_ct]; rfl) (by rw [Mu_ct]; rfl)) (by rw [Mu_ct]; rfl) (by rw [Mu_ct]; rfl) (fun j hj => absurd hj (Nat.not_lt_zero j))
  | succ k ihk =>
    intro d mc ms size m t M P X hk lay0 hFo hm hP hPh htop hX ht6 hXh hB
    obtain ⟨Q, hQ⟩ : ∃ Q : pm_Q, Q = (fun ρ M' => ρ = none ∧ Lay M' ∧ Fr [34, 37, 38] M M' ∧ FoAt M' T v ∧ (∀ j, j < size → pm_ct M' 37 j = pm_ct M 37 j) ∧ ∃ (t' : Nat) (X' : List Nat), pm_ct M' 34 6 = (t' : Int) ∧ X'.length = t' ∧ t' ≤ 6 ∧ PhAt M' 38 L X' ∧ Rs (IsK (fo T v) (lsx m 0 L)) P t X t' X') := ⟨_, rfl⟩
    rw [← hQ]
    have main : ∀ (l pre : List Nat) (N : pm_M) (t1 : Nat) (X1 : List Nat), L = pre ++ l → Lay N → Fr [34, 37, 38] M N → FoAt N T v → (∀ j, j < size → pm_ct N 37 j = pm_ct M 37 j) → pm_ct N 34 6 = (t1 : Int) → X1.length = t1 → t1 ≤ 6 → PhAt N 38 L X1 → (∀ q, IsK (fo T v) (lsx m pre.length l) q → size + q.length ≤ 6) → (∀ t' X', Rs (fun q => q ≠ [] ∧ IsK (fo T v) (lsx m pre.length l) q) P t1 X1 t' X' → Rs (IsK (fo T v) (lsx m 0 L)) P t X t' X') → Wp (d + (k + 1) + 1) 24 52 [(2, ((34 : Nat) : Int)), (1, (m : Int)), (9, 0), (0, (size : Int)), (0, (pre.length : Int))] [] N mc ms Q := by
      intro l
      induction l with
      | nil =>
        intro pre N t1 X1 hl lay hF hFo' hpa h6 hX1 ht1 hXh1 hB1 comp
        have c5 := hFo'.1.1
        rw [← hL] at c5
        have eL : L.length = pre.length := by rw [hl, List.append_nil]
        obtain ⟨i, hi⟩ : ∃ i, i = pre.length := ⟨_, rfl⟩
        rw [← hi]
        refine g_iload lk_24_52 rfl ?_
        refine g_aload_n lk_24_54 rfl ?_
        refine m_getfield (u := []) (M := N) lk_24_55 rfl (lay.on (by decide) rfl) (v := (L.length : Int)) c5 ?_
        refine g_icmp (t := 118) lk_24_58 rfl (by first | (unfold pm_inI; omega) | exact pm_and_in _ _ | exact pm_shr_in _ _ | exact pm_or_in _ _ | exact pm_xor_in _ _ | exact pm_shl_in _ _ | exact pm_cmp_in _ _ | exact pm_b8_in _ | (unfold pm_inI; split <;> omega)) (by first | (unfold pm_inI; omega) | exact pm_and_in _ _ | exact pm_shr_in _ _ | exact pm_or_in _ _ | exact pm_xor_in _ _ | exact pm_shl_in _ _ | exact pm_cmp_in _ _ | exact pm_b8_in _ | (unfold pm_inI; split <;> omega)) (fun h1 => ?_) (fun h1 => ?_)
        · replace h1 : (L.length : Int) ≤ (i : Int) := h1
          refine g_return lk_24_118 ?_
          rw [hQ]
          refine ⟨rfl, lay, hF, hFo', hpa, t1, X1, h6, hX1, ht1, hXh1, comp t1 X1 (Rs.none (fun q hq => ?_))⟩
          exact absurd (IsK_e hq.2) hq.1
        · replace h1 : ¬ ((L.length : Int) ≤ (i : Int)) := h1
          omega
      | cons x l ihl =>
        intro pre N t1 X1 hl lay hF hFo' hpa h6 hX1 ht1 hXh1 hB1 comp
        have c5 := hFo'.1.1
        rw [← hL] at c5
        have eL : L.length = pre.length + (l.length + 1) := by rw [hl, List.length_append, List.length_cons]
        obtain ⟨i, hi⟩ : ∃ i, i = pre.length := ⟨_, rfl⟩
        rw [← hi] at hB1 comp ⊢
        have hLi : L[i]? = some x := by rw [hl, hi, List.getElem?_append_right (Nat.le_refl _)]; simp
        have p36 := hFo'.2 i (by rw [← hL]; omega)
        rw [← hL] at p36
        obtain ⟨pt, hpt⟩ : ∃ pt, pt = ptm T v L i L.length := ⟨_, rfl⟩
        rw [← hpt] at p36
        obtain ⟨u, hu⟩ : ∃ u, u = m / 2 ^ i := ⟨_, rfl⟩
        have u36 : u < 68719476736 := by rw [hu]; exact Nat.lt_of_le_of_lt (Nat.div_le_self _ _) hm
        have e1 : pm_shrL (m : Int) (i : Int) = (u : Int) := by rw [hu]; exact pm_shrL_n (by omega) (by omega)
        have e2 : pm_andL (u : Int) 1 = (bt m i : Int) := by rw [hu]; exact pm_bitL hm
        obtain ⟨b, hb⟩ : ∃ b, b = bt m i := ⟨_, rfl⟩
        have e3 : pm_cmp (pm_wL (b : Int)) (pm_wL 0) = (b : Int) := by rw [hb]; exact pm_cmpB m i
        rw [← hb] at e2
        have b1 : b ≤ 1 := by rw [hb]; exact bt_1 m i
        have e4 : pm_andL (m : Int) (pt : Int) = ((m &&& pt : Nat) : Int) := pm_andL_n (by omega)
        have pu : popL u ≤ 36 := by
          unfold popL
          exact Nat.le_trans (sm_le (g := fun _ => 1) (fun j _ => bt_1 u j)) (by decide)
        have ll := lsx_len hm (x :: l) i
        rw [← hu] at ll
        have lc := lsx_c m i x l
        have next : ∀ (N' : pm_M) (t2 : Nat) (X2 : List Nat), Lay N' → Fr [34, 37, 38] M N' → FoAt N' T v → (∀ j, j < size → pm_ct N' 37 j = pm_ct M 37 j) → pm_ct N' 34 6 = (t2 : Int) → X2.length = t2 → t2 ≤ 6 → PhAt N' 38 L X2 → (∀ q, IsK (fo T v) (lsx m (i + 1) l) q → size + q.length ≤ 6) → (∀ t' X', Rs (fun q => q ≠ [] ∧ IsK (fo T v) (lsx m (i + 1) l) q) P t2 X2 t' X' → Rs (IsK (fo T v) (lsx m 0 L)) P t X t' X') → Wp (d + (k + 1) + 1) 24 112 [(2, ((34 : Nat) : Int)), (1, (m : Int)), (9, 0), (0, (size : Int)), (0, (i : Int))] [] N' mc ms Q := by
          intro N' t2 X2 lay' a1 a2 a3 a4 a5 a6 a7 a8 a9
          have := ihl (pre ++ [x]) N' t2 X2 (by rw [hl]; simp) lay' a1 a2 a3 a4 a5 a6 a7
          rw [List.length_append, ← hi] at this
          have this := this a8 a9
          refine g_iinc (ls' := [(2, ((34 : Nat) : Int)), (1, (m : Int)), (9, 0), (0, (size : Int)), (0, ((i : Int) + 1))]) lk_24_112 rfl rfl rfl ?_
          refine g_goto (t := 52) lk_24_115 rfl ?_
          exact this
        refine g_iload lk_24_52 rfl ?_
        refine g_aload_n lk_24_54 rfl ?_
        refine m_getfield (u := []) (M := N) lk_24_55 rfl (lay.on (by decide) rfl) (v := (L.length : Int)) c5 ?_
        refine g_icmp (t := 118) lk_24_58 rfl (by first | (unfold pm_inI; omega) | exact pm_and_in _ _ | exact pm_shr_in _ _ | exact pm_or_in _ _ | exact pm_xor_in _ _ | exact pm_shl_in _ _ | exact pm_cmp_in _ _ | exact pm_b8_in _ | (unfold pm_inI; split <;> omega)) (by first | (unfold pm_inI; omega) | exact pm_and_in _ _ | exact pm_shr_in _ _ | exact pm_or_in _ _ | exact pm_xor_in _ _ | exact pm_shl_in _ _ | exact pm_cmp_in _ _ | exact pm_b8_in _ | (unfold pm_inI; split <;> omega)) (fun h1 => ?_) (fun h1 => ?_)
        · replace h1 : (L.length : Int) ≤ (i : Int) := h1
          refine g_return lk_24_118 ?_
          omega
        · replace h1 : ¬ ((L.length : Int) ≤ (i : Int)) := h1
          refine g_iload_n lk_24_61 rfl ?_
          refine g_lload_n lk_24_62 rfl ?_
          refine g_iload lk_24_63 rfl ?_
          refine g_lshr lk_24_65 ?_
          refine g_top (z := (pm_shrL (m : Int) (i : Int))) (z' := (u : Int)) (e1) ?_
          refine g_static (Qc := _) lk_24_66 (by decide) rfl (Nat.le_of_ble_eq_true rfl) rfl rfl (Nat.le_of_ble_eq_true rfl) (Nat.le_of_ble_eq_true rfl) (Nat.zero_le _) (Nat.zero_le _) (c_Long_bitCount u36) ?_
          rintro _ N2 ⟨rfl, hN2⟩
          rw [hN2]
          show Wp _ 24 69 [(2, ((34 : Nat) : Int)), (1, (m : Int)), (9, 0), (0, (size : Int)), (0, (i : Int))] [(0, (popL u : Int)), (0, (size : Int))] N _ _ _
          refine g_iadd lk_24_69 ?_
          refine g_aload_n lk_24_70 rfl ?_
          refine m_getfield (u := []) (M := N) lk_24_71 rfl (lay.on (by decide) rfl) (v := (t1 : Int)) h6 ?_
          refine g_icmp (t := 118) lk_24_74 rfl (by first | (unfold pm_inI; omega) | exact pm_and_in _ _ | exact pm_shr_in _ _ | exact pm_or_in _ _ | exact pm_xor_in _ _ | exact pm_shl_in _ _ | exact pm_cmp_in _ _ | exact pm_b8_in _ | (unfold pm_inI; split <;> omega)) (by first | (unfold pm_inI; omega) | exact pm_and_in _ _ | exact pm_shr_in _ _ | exact pm_or_in _ _ | exact pm_xor_in _ _ | exact pm_shl_in _ _ | exact pm_cmp_in _ _ | exact pm_b8_in _ | (unfold pm_inI; split <;> omega)) (fun h3 => ?_) (fun h3 => ?_)
          · replace h3 : ((size : Int) + (popL u : Int)) ≤ (t1 : Int) := h3
            refine g_return lk_24_118 ?_
            rw [hQ]
            refine ⟨rfl, lay, hF, hFo', hpa, t1, X1, h6, hX1, ht1, hXh1, comp t1 X1 (Rs.none (fun q hq => ?_))⟩
            have := IsK_len hq.2
            omega
          · replace h3 : ¬ (((size : Int) + (popL u : Int)) ≤ (t1 : Int)) := h3
            refine g_lload_n lk_24_77 rfl ?_
            refine g_iload lk_24_78 rfl ?_
            refine g_lshr lk_24_80 ?_
            refine g_top (z := (pm_shrL (m : Int) (i : Int))) (z' := (u : Int)) (e1) ?_
            refine g_lconst lk_24_81 ?_
            refine g_land lk_24_82 ?_
            refine g_top (z := (pm_andL (u : Int) 1)) (z' := (b : Int)) (e2) ?_
            refine g_lconst lk_24_83 ?_
            refine g_lcmp lk_24_84 ?_
            refine g_top (z := (pm_cmp (pm_wL (b : Int)) (pm_wL 0))) (z' := (b : Int)) (e3) ?_
            refine g_if (t := 112) lk_24_85 rfl (by first | (unfold pm_inI; omega) | exact pm_and_in _ _ | exact pm_shr_in _ _ | exact pm_or_in _ _ | exact pm_xor_in _ _ | exact pm_shl_in _ _ | exact pm_cmp_in _ _ | exact pm_b8_in _ | (unfold pm_inI; split <;> omega)) (fun h4 => ?_) (fun h4 => ?_)
            · replace h4 : (b : Int) = 0 := h4
              have hb0 : m.testBit i = false := bt_off.mp (by omega)
              rw [hb0] at lc
              have lc : lsx m i (x :: l) = lsx m (i + 1) l := lc
              rw [lc] at hB1 comp
              exact next N t1 X1 lay hF hFo' hpa h6 hX1 ht1 hXh1 hB1 comp
            · replace h4 : ¬ ((b : Int) = 0) := h4
              refine g_aload_n lk_24_88 rfl ?_
              refine g_getfield lk_24_89 rfl (lay.on (by decide) rfl) (v := ((37 : Nat) : Int)) (lay.rf rfl) ?_
              refine g_iload_n lk_24_92 rfl ?_
              refine g_iload lk_24_93 rfl ?_
              have lay5 : Lay (Mu [(37, pm_upd (pm_ct N 37) size (i : Int))] N) := lay.muA (l := []) (a := 37) (f := pm_upd (pm_ct N 37) size (i : Int)) rfl rfl
              refine m_iastore (u := []) (u' := [(37, pm_upd (pm_ct N 37) size (i : Int))]) (M := N) lk_24_95 (lay.ay (by decide) rfl) (by omega) (j := size) (by omega) rfl ?_
              refine g_aload_n lk_24_96 rfl ?_
              refine g_lload_n lk_24_97 rfl ?_
              refine g_aload_n lk_24_98 rfl ?_
              refine g_getfield lk_24_99 rfl (lay5.on (by decide) rfl) (v := ((36 : Nat) : Int)) (lay5.rf rfl) ?_
              refine g_iload lk_24_102 rfl ?_
              refine m_laload (u := [(37, pm_upd (pm_ct N 37) size (i : Int))]) (M := N) lk_24_104 (lay5.ay (by decide) rfl) (by omega) (j := i) (by omega) (v := (pt : Int)) p36 ?_
              refine g_land lk_24_105 ?_
              refine g_top (z := (pm_andL (m : Int) (pt : Int))) (z' := ((m &&& pt : Nat) : Int)) (e4) ?_
              refine g_iload_n lk_24_106 rfl ?_
              refine g_iconst lk_24_107 ?_
              refine g_iadd lk_24_108 ?_
              have hb1 : m.testBit i = true := bt_on.mp (by omega)
              rw [hb1] at lc
              have lc : lsx m i (x :: l) = x :: lsx m (i + 1) l := lc
              rw [lc] at hB1 comp
              have tk := lsx_take (T := T) (v := v) (m := m) hl
              rw [← hi, ← hpt] at tk
              refine g_virtual (p := 34) (Qc := _) lk_24_109 rfl (Nat.le_of_ble_eq_true rfl) rfl rfl (lay5.on (by decide) rfl) (Nat.le_of_ble_eq_true rfl) (Nat.le_of_ble_eq_true rfl) (Nat.zero_le _) (Nat.zero_le _) (ihk d 0 0 (size + 1) (m &&& pt) t1 (Mu [(37, pm_upd (pm_ct N 37) size (i : Int))] N) (P ++ [x]) X1 (by omega) lay5 (hFo'.of (by rw [Mu_ct]; rfl) (by rw [Mu_ct]; rfl) (by rw [Mu_ct]; rfl)) (Nat.lt_of_le_of_lt Nat.and_le_left hm) (by rw [List.length_append]; show P.length + 1 = _; omega) (fun j y hj => ?_) (by rw [Mu_ct]; exact h6) hX1 ht1 (hXh1.of (fun j _ => by rw [Mu_ct]; rfl)) (fun q hq => ?_)) ?_
              · rw [Mu_ct]
                show ∃ i', pm_upd (pm_ct N 37) size _ j = _ ∧ _
                rcases app_get hj with ⟨c1, c2⟩ | ⟨c1, c2⟩
                · rw [pm_upd_ne (by omega), hpa j (by omega)]
                  exact hPh j y c2
                · rw [c1, hP, pm_upd_eq, c2]; exact ⟨i, rfl, hLi⟩
              · rw [tk] at hq
                have := hB1 (x :: q) (IsK_cons.mpr (Or.inr ⟨q, rfl, hq⟩))
                rw [List.length_cons] at this
                omega
              · rintro _ N' ⟨rfl, lay', hF', hFo2, hpa', t2, X2, g6, gX, gt, gXh, gR⟩
                refine next N' t2 X2 lay' ((hF.trans (Fr.mu _ _ rfl)).trans hF') hFo2 (fun j hj => ?_) g6 gX gt gXh (fun q hq => hB1 q (IsK_cons.mpr (Or.inl hq))) (fun t' X' hr => ?_)
                · rw [hpa' j (by omega), Mu_ct]
                  show pm_upd (pm_ct N 37) size _ j = _
                  rw [pm_upd_ne (by omega)]; exact hpa j hj
                · refine comp t' X' (Rs.comp (Rs.push gR) hr ?_ ?_)
                  · rintro a c ⟨q', rfl, -⟩ ⟨c1, c2⟩
                    cases c with
                    | nil => exact absurd rfl c1
                    | cons y c =>
                      refine Or.inl ?_
                      have : y ∈ l := (c2.1.trans (lsx_sub l (i + 1))).subset (List.mem_cons_self ..)
                      rw [hl, List.pairwise_append] at srt
                      exact (List.pairwise_cons.mp srt.2.1).1 y this
                  · intro q
                    show (q ≠ [] ∧ IsK (fo T v) (x :: lsx m (i + 1) l) q) ↔ _
                    rw [IsK_cons, tk]
                    constructor
                    · rintro ⟨c1, c2 | c2⟩
                      · exact Or.inr ⟨c1, c2⟩
                      · exact Or.inl c2
                    · rintro (⟨q', rfl, c2⟩ | ⟨c1, c2⟩)
                      · exact ⟨by simp, Or.inr ⟨q', rfl, c2⟩⟩
                      · exact ⟨c1, Or.inl c2⟩
    have k42 : ∀ (N : pm_M) (t1 : Nat) (X1 : List Nat) (v4 : pm_V), Lay N → Fr [34, 37, 38] M N → FoAt N T v → (∀ j, j < size → pm_ct N 37 j = pm_ct M 37 j) → pm_ct N 34 6 = (t1 : Int) → X1.length = t1 → t1 ≤ 6 → PhAt N 38 L X1 → Rs (fun q => q = []) P t X t1 X1 → Wp (d + (k + 1) + 1) 24 42 [(2, ((34 : Nat) : Int)), (1, (m : Int)), (9, 0), (0, (size : Int)), v4] [] N mc ms Q := by
      intro N t1 X1 v4 lay a1 a2 a3 a4 a5 a6 a7 a8
      refine g_iload_n lk_24_42 rfl ?_
      refine g_bipush lk_24_43 ?_
      refine g_icmp (t := 49) lk_24_45 rfl (by first | (unfold pm_inI; omega) | exact pm_and_in _ _ | exact pm_shr_in _ _ | exact pm_or_in _ _ | exact pm_xor_in _ _ | exact pm_shl_in _ _ | exact pm_cmp_in _ _ | exact pm_b8_in _ | (unfold pm_inI; split <;> omega)) (by first | (unfold pm_inI; omega) | exact pm_and_in _ _ | exact pm_shr_in _ _ | exact pm_or_in _ _ | exact pm_xor_in _ _ | exact pm_shl_in _ _ | exact pm_cmp_in _ _ | exact pm_b8_in _ | (unfold pm_inI; split <;> omega)) (fun h1 => ?_) (fun h1 => ?_)
      · replace h1 : (size : Int) < 6 := h1
        refine g_iconst lk_24_49 ?_
        refine g_istore (ls' := [(2, ((34 : Nat) : Int)), (1, (m : Int)), (9, 0), (0, (size : Int)), (0, 0)]) lk_24_50 rfl rfl ?_
        refine main L [] N t1 X1 rfl lay a1 a2 a3 a4 a5 a6 a7 hB (fun t' X' hr => Rs.comp a8 hr ?_ ?_)
        · rintro a c rfl -; exact trivial
        · intro q
          constructor
          · intro hq
            by_cases e : q = []
            · exact Or.inl e
            · exact Or.inr ⟨e, hq⟩
          · rintro (rfl | h)
            · exact IsK_nil _ _
            · exact h.2
      · replace h1 : ¬ ((size : Int) < 6) := h1
        refine g_return lk_24_48 ?_
        omega
    have loop : ∀ (n i : Nat) (N : pm_M), i + n = size → t < size → Lay N → Fr [34, 37, 38] M N → FoAt N T v → pm_ct N 37 = pm_ct M 37 → pm_ct N 34 6 = (size : Int) → (∀ j, j < i → pm_ct N 38 j = pm_ct M 37 j) → Wp (d + (k + 1) + 1) 24 16 [(2, ((34 : Nat) : Int)), (1, (m : Int)), (9, 0), (0, (size : Int)), (0, (i : Int))] [] N mc ms Q := by
      intro n
      induction n with
      | zero =>
        intro i N hi hlt lay hF hFo' h37 h6 hj
        refine g_iload lk_24_16 rfl ?_
        refine g_iload_n lk_24_18 rfl ?_
        refine g_icmp (t := 42) lk_24_19 rfl (by first | (unfold pm_inI; omega) | exact pm_and_in _ _ | exact pm_shr_in _ _ | exact pm_or_in _ _ | exact pm_xor_in _ _ | exact pm_shl_in _ _ | exact pm_cmp_in _ _ | exact pm_b8_in _ | (unfold pm_inI; split <;> omega)) (by first | (unfold pm_inI; omega) | exact pm_and_in _ _ | exact pm_shr_in _ _ | exact pm_or_in _ _ | exact pm_xor_in _ _ | exact pm_shl_in _ _ | exact pm_cmp_in _ _ | exact pm_b8_in _ | (unfold pm_inI; split <;> omega)) (fun h1 => ?_) (fun h1 => ?_)
        · replace h1 : (size : Int) ≤ (i : Int) := h1
          refine k42 N size P _ lay hF hFo' (fun j _ => by rw [h37]) h6 hP (by omega) (fun j x hx => ?_) ?_
          · have := (List.getElem?_eq_some_iff.mp hx).1
            rw [hj j (by omega)]; exact hPh j x hx
          · refine ⟨by omega, fun q hq => by rw [hq]; show P.length + 0 ≤ size; omega, fun e => by omega, fun _ => ⟨[], rfl, by show P.length + 0 = size; omega, by rw [List.append_nil], fun q' _ _ => trivial⟩⟩
        · replace h1 : ¬ ((size : Int) ≤ (i : Int)) := h1
          omega
      | succ n ih =>
        intro i N hi hlt lay hF hFo' h37 h6 hj
        refine g_iload lk_24_16 rfl ?_
        refine g_iload_n lk_24_18 rfl ?_
        refine g_icmp (t := 42) lk_24_19 rfl (by first | (unfold pm_inI; omega) | exact pm_and_in _ _ | exact pm_shr_in _ _ | exact pm_or_in _ _ | exact pm_xor_in _ _ | exact pm_shl_in _ _ | exact pm_cmp_in _ _ | exact pm_b8_in _ | (unfold pm_inI; split <;> omega)) (by first | (unfold pm_inI; omega) | exact pm_and_in _ _ | exact pm_shr_in _ _ | exact pm_or_in _ _ | exact pm_xor_in _ _ | exact pm_shl_in _ _ | exact pm_cmp_in _ _ | exact pm_b8_in _ | (unfold pm_inI; split <;> omega)) (fun h1 => ?_) (fun h1 => ?_)
        · replace h1 : (size : Int) ≤ (i : Int) := h1
          omega
        · replace h1 : ¬ ((size : Int) ≤ (i : Int)) := h1
          refine g_aload_n lk_24_22 rfl ?_
          refine g_getfield lk_24_23 rfl (lay.on (by decide) rfl) (v := ((38 : Nat) : Int)) (lay.rf rfl) ?_
          refine g_iload lk_24_26 rfl ?_
          refine g_aload_n lk_24_28 rfl ?_
          refine g_getfield lk_24_29 rfl (lay.on (by decide) rfl) (v := ((37 : Nat) : Int)) (lay.rf rfl) ?_
          refine g_iload lk_24_32 rfl ?_
          refine m_iaload (u := []) (M := N) lk_24_34 (lay.ay (by decide) rfl) (by omega) (j := i) (by omega) (v := pm_ct N 37 i) rfl ?_
          have lay2 : Lay (Mu [(38, pm_upd (pm_ct N 38) i (pm_ct N 37 i))] N) := lay.muA (l := []) (a := 38) (f := pm_upd (pm_ct N 38) i (pm_ct N 37 i)) rfl rfl
          refine m_iastore (u := []) (u' := [(38, pm_upd (pm_ct N 38) i (pm_ct N 37 i))]) (M := N) lk_24_35 (lay.ay (by decide) rfl) (by omega) (j := i) (by omega) rfl ?_
          refine g_iinc (ls' := [(2, ((34 : Nat) : Int)), (1, (m : Int)), (9, 0), (0, (size : Int)), (0, ((i : Int) + 1))]) lk_24_36 rfl rfl rfl ?_
          refine g_goto (t := 16) lk_24_39 rfl ?_
          refine ih (i + 1) _ (by omega) hlt lay2 (hF.trans (Fr.mu _ _ rfl)) (hFo'.of (by rw [Mu_ct]; rfl) (by rw [Mu_ct]; rfl) (by rw [Mu_ct]; rfl)) (by rw [Mu_ct]; exact h37) (by rw [Mu_ct]; exact h6) (fun j hj' => ?_)
          rw [Mu_ct]
          show pm_upd (pm_ct N 38) i _ j = _
          by_cases e : j = i
          · subst e; rw [pm_upd_eq, h37]
          · rw [pm_upd_ne e]; exact hj j (by omega)
    show Wp (d + (k + 1) + 1) 24 0 [(2, ((34 : Nat) : Int)), (1, (m : Int)), (9, 0), (0, (size : Int)), (9, 0)] [] M mc ms Q
    refine g_iload_n lk_24_0 rfl ?_
    refine g_aload_n lk_24_1 rfl ?_
    refine m_getfield (u := []) (M := M) lk_24_2 rfl (lay0.on (by decide) rfl) (v := (t : Int)) htop ?_
    refine g_icmp (t := 42) lk_24_5 rfl (by first | (unfold pm_inI; omega) | exact pm_and_in _ _ | exact pm_shr_in _ _ | exact pm_or_in _ _ | exact pm_xor_in _ _ | exact pm_shl_in _ _ | exact pm_cmp_in _ _ | exact pm_b8_in _ | (unfold pm_inI; split <;> omega)) (by first | (unfold pm_inI; omega) | exact pm_and_in _ _ | exact pm_shr_in _ _ | exact pm_or_in _ _ | exact pm_xor_in _ _ | exact pm_shl_in _ _ | exact pm_cmp_in _ _ | exact pm_b8_in _ | (unfold pm_inI; split <;> omega)) (fun h1 => ?_) (fun h1 => ?_)
    · replace h1 : (size : Int) ≤ (t : Int) := h1
      exact k42 M t X _ lay0 (Fr.refl _ _) hFo (fun j _ => rfl) htop hX ht6 hXh (Rs.none (fun q hq => by rw [hq]; show P.length + 0 ≤ t; omega))
    · replace h1 : ¬ ((size : Int) ≤ (t : Int)) := h1
      refine g_aload_n lk_24_8 rfl ?_
      refine g_iload_n lk_24_9 rfl ?_
      have lay2 : Lay (Mu [(34, pm_upd (pm_ct M 34) 6 (size : Int))] M) := lay0.muF (l := []) (a := 34) (k := 6) (z := (size : Int)) rfl rfl
      refine m_putfield (u := []) (u' := [(34, pm_upd (pm_ct M 34) 6 (size : Int))]) (M := M) lk_24_10 rfl (lay0.on (by decide) rfl) (fun h => absurd h (by decide)) rfl ?_
      refine g_iconst lk_24_13 ?_
      refine g_istore (ls' := [(2, ((34 : Nat) : Int)), (1, (m : Int)), (9, 0), (0, (size : Int)), (0, 0)]) lk_24_14 rfl rfl ?_
      refine loop size 0 _ (by omega) (by omega) lay2 (Fr.mu _ _ rfl) (hFo.of (by rw [Mu_ct]; rfl) (by rw [Mu_ct]; rfl) (by rw [Mu_ct]; rfl)) (by rw [Mu_ct]; rfl) (by rw [Mu_ct]; rfl) (fun j hj => absurd hj (Nat.not_lt_zero j))
